/-! notes: sorts, firsts, seconds belong together; numbers that count down; small lemmas -/
def uNt (s f g : Nat → Int32) : Prop := ∀ k, (s k = 6 ∨ f k ≤ 11) ∧ (s k = 2 ∨ s k = 3 → g k ≤ 11)
theorem uLeN {b n : Nat} (hb : b < 2 ^ 31) (hn : n < 2 ^ 31) (h : nI b ≤ nI n) : b ≤ n := (nI_leI hb hn).mp h
theorem uNtF {s f g : Nat → Int32} {a b : Nat} (h : uNt s f g) (k : Nat) (es : s k = nI a) (ef : f k = nI b) (ha : ¬ a = 6 ∧ a < 2 ^ 31) (hb : b < 2 ^ 31) : b ≤ 11 := by
  rcases (h k).1 with q | q
  · rw [es] at q; exact absurd ((nI_eq (b := 6) ha.2 (by decide)).mp q) ha.1
  · rw [ef] at q; exact uLeN (n := 11) hb (by decide) q
theorem uNtG {s f g : Nat → Int32} {a b : Nat} (h : uNt s f g) (k : Nat) (es : s k = nI a) (ef : g k = nI b) (ha : a = 2 ∨ a = 3) (hb : b < 2 ^ 31) : b ≤ 11 := by
  have q := (h k).2 (by rcases ha with rfl | rfl; exact Or.inl es; exact Or.inr es)
  rw [ef] at q; exact uLeN (n := 11) hb (by decide) q
theorem uNtUp {s f g : Nat → Int32} {k a b d : Nat} (h : uNt s f g) (ha : a < 2 ^ 31) (hb : b < 2 ^ 31) (hd : d < 2 ^ 31) (h1 : a = 6 ∨ b ≤ 11) (h2 : a = 2 ∨ a = 3 → d ≤ 11) : uNt (upd s k (nI a)) (upd f k (nI b)) (upd g k (nI d)) := by
  intro j
  by_cases e : j = k
  · subst e; rw [pk_us, pk_us, pk_us]
    refine ⟨?_, fun q => ?_⟩
    · rcases h1 with rfl | q; exact Or.inl rfl; exact Or.inr ((nI_leI (b := 11) hb (by decide)).mpr q)
    · refine (nI_leI (b := 11) hd (by decide)).mpr (h2 ?_)
      rcases q with q | q
      · exact Or.inl ((nI_eq (b := 2) ha (by decide)).mp q)
      · exact Or.inr ((nI_eq (b := 3) ha (by decide)).mp q)
  · rw [pk_un e, pk_un e, pk_un e]; exact h j
theorem uNatT {x : Int32} {n : Nat} (hn : n < 2 ^ 31) (h0 : ¬ x < 0) (h1 : ¬ nI n < x) : ∃ a : Nat, a < n + 1 ∧ x = nI a := by
  obtain ⟨a, ha, rfl⟩ := nI_of h0
  exact ⟨a, Nat.lt_succ_of_le (Nat.le_of_not_lt (fun q => h1 ((nI_ltI hn ha).mpr q))), rfl⟩
theorem uDn0 {j : Nat} (h : 1 ≤ j) : nI j - 1 = nI (j - 1) := pk_sub (b := 1) h
theorem uDn1 {j : Nat} (hj : j < 2 ^ 31) (h : ¬ nI j - 1 < 0) : 1 ≤ j := by
  by_cases e : j = 0
  · subst e; exact absurd (by decide) h
  · omega
theorem uDn {j : Nat} (h : 1 ≤ j) : nI j - 1 + Int32.ofInt (-1) = nI (j - 1) - 1 := by
  rw [uDn0 h]; exact (show ∀ x : Int32, x + Int32.ofInt (-1) = x - 1 from fun x => by rw [Int32.sub_eq_add_neg]; rfl) _
theorem uNatB {x : Int32} {lo hi : Nat} (h0 : (lo : Int) ≤ x.toInt) (h1 : x.toInt ≤ (hi : Int)) (hh : hi < 2 ^ 31 - 1) : ∃ a : Nat, (lo ≤ a ∧ a ≤ hi) ∧ x = nI a := by
  obtain ⟨a, ha, rfl⟩ := uNat (n := hi + 1) (x := x) (by omega) (by omega) (by omega)
  rw [nI_toInt (by omega)] at h0
  exact ⟨a, ⟨by omega, by omega⟩, rfl⟩
theorem uAnd32 (x : Int32) : ∃ a : Nat, a ≤ 32 ∧ x &&& 32 = nI a := by
  have h : (x &&& 32).toBitVec.toNat ≤ 32 := by
    rw [Int32.toBitVec_and, BitVec.toNat_and]; exact Nat.and_le_right
  refine ⟨(x &&& 32).toBitVec.toNat, h, ?_⟩
  apply Int32.toBitVec_inj.mp
  apply BitVec.eq_of_toNat_eq
  show _ = (nI _).toBitVec.toNat
  rw [show (nI (x &&& 32).toBitVec.toNat).toBitVec = BitVec.ofNat 32 (x &&& 32).toBitVec.toNat from rfl, BitVec.toNat_ofNat, Nat.mod_eq_of_lt (by omega)]
theorem uRem10 {x : Int32} (h0 : ¬ x ≤ 0) : ∃ a : Nat, a ≤ 9 ∧ x - x / 10 * 10 = nI a := by
  obtain ⟨a, ha, rfl⟩ := nI_of (x := x) (by rw [Int32.le_iff_toInt_le] at h0; rw [Int32.lt_iff_toInt_lt]; simp only [Int32.reduceToInt] at h0 ⊢; omega)
  exact ⟨a % 10, by omega, pk_rem (d := 10) ha (by decide) (by decide)⟩
theorem uNatP {x : Int32} {n : Nat} (hn : n < 2 ^ 31) (h0 : ¬ x < 0) (h1 : x < nI n) : ∃ a : Nat, a < n ∧ x = nI a := by
  obtain ⟨a, ha, rfl⟩ := nI_of h0
  exact ⟨a, (nI_ltI ha hn).mp h1, rfl⟩
theorem uNatL {x : Int32} {n : Nat} (hn : n < 2 ^ 31) (h0 : ¬ x < 0) (h1 : x ≤ nI n) : ∃ a : Nat, a < n + 1 ∧ x = nI a := by
  obtain ⟨a, ha, rfl⟩ := nI_of h0
  exact ⟨a, Nat.lt_succ_of_le ((nI_leI ha hn).mp h1), rfl⟩
theorem uNat9 {x : Int32} (h : 0 ≤ x ∧ x ≤ 9) : ∃ a : Nat, a ≤ 9 ∧ x = nI a := by
  obtain ⟨h0, h1⟩ := h
  rw [Int32.le_iff_toInt_le] at h0 h1
  simp only [Int32.reduceToInt] at h0 h1
  obtain ⟨a, ha, e⟩ := uNat (n := 10) h0 (by omega) (by decide)
  exact ⟨a, by omega, e⟩
/-! acts of orders -/
def uGd (x y : Int32) : Prop := (x = 7 ∨ x = 10 ∨ x = 11) ∨ (0 ≤ y ∧ y ≤ 9)
def uAd (n : Nat) (f g : Nat → Int32) : Prop := ∀ o i : Nat, o < n → (i : Int) < (f o).toInt → g (o * 4 + i) = 7 ∨ g (o * 4 + i) = 8 ∨ g (o * 4 + i) = 10 ∨ g (o * 4 + i) = 11
def uAc (n j : Nat) (f g h : Nat → Int32) : Prop := ∀ o i : Nat, (o < n ∨ o = n ∧ i < j) → (i : Int) < (f o).toInt → uGd (g (o * 4 + i)) (h (o * 4 + i))
theorem uAd0 {f g : Nat → Int32} : uAd 0 f g := fun _ _ h => absurd h (Nat.not_lt_zero _)
theorem uAc0 {f g h : Nat → Int32} : uAc 0 0 f g h := fun _ _ h => by omega
theorem uAdN {n k : Nat} {f g : Nat → Int32} (h : uAd n f g) (hk : k = n) : uAd (n + 1) (upd f k 0) g := by
  subst hk
  intro o i ho hi
  by_cases e : o = k
  · subst e; rw [pk_us] at hi; simp only [Int32.reduceToInt] at hi; omega
  · rw [pk_un e] at hi; exact h o i (by omega) hi
theorem uR4 {f : Nat → Int32} (hr : uRg f 0 4) (o : Nat) {i : Nat} (hi : (i : Int) < (f o).toInt) : i < 4 := by
  have h := (hr o).2
  rw [Int32.le_iff_toInt_le] at h
  simp only [Int32.reduceToInt] at h
  omega
theorem uAdA {n o a : Nat} {f g : Nat → Int32} {v : Int32} (h : uAd n f g) (hr : uRg f 0 4) (ho : o < n) (e : f o = nI a) (ha : a < 4) (hv : v = 7 ∨ v = 8 ∨ v = 10 ∨ v = 11) : uAd n (upd f o (nI (a + 1))) (upd g (o * 4 + a) v) := by
  intro o' i ho' hi
  by_cases q : o' = o
  · subst q
    rw [pk_us, nI_toInt (by omega)] at hi
    by_cases q2 : i = a
    · subst q2; rw [pk_us]; exact hv
    · rw [pk_un (by omega)]; exact h o' i ho' (by rw [e, nI_toInt (by omega)]; omega)
  · rw [pk_un q] at hi
    have h4 := uR4 hr o' hi
    rw [pk_un (by omega)]; exact h o' i ho' hi
theorem uAcS {n j w : Nat} {f g h : Nat → Int32} (hr : uRg f 0 4) (q : uAc n j f g h) (hj : j < 4) (hw : w ≤ 9) : uAc n (j + 1) f g (upd h (n * 4 + j) (nI w)) := by
  intro o i ho hi
  have h4 := uR4 hr o hi
  by_cases e : o * 4 + i = n * 4 + j
  · rw [e, pk_us]; exact Or.inr ⟨uLoN (by simp only [Int32.reduceToInt]; omega) (by omega), uHiN (by simp only [Int32.reduceToInt]; omega) (by omega)⟩
  · rw [pk_un e]; exact q o i (by omega) hi
theorem uAcK {m n j : Nat} {f g h : Nat → Int32} (d : uAd m f g) (hn : n < m) (q : uAc n j f g h) (h8 : ¬ g (n * 4 + j) = 8) : uAc n (j + 1) f g h := by
  intro o i ho hi
  by_cases e : o = n ∧ i = j
  · obtain ⟨rfl, rfl⟩ := e
    rcases d o i hn hi with k | k | k | k
    · exact Or.inl (Or.inl k)
    · exact absurd k h8
    · exact Or.inl (Or.inr (Or.inl k))
    · exact Or.inl (Or.inr (Or.inr k))
  · exact q o i (by omega) hi
theorem uAcE {n j a : Nat} {f g h : Nat → Int32} (q : uAc n j f g h) (e : f n = nI a) (ha : a ≤ j ∧ a < 2 ^ 31) : uAc (n + 1) 0 f g h := by
  intro o i ho hi
  by_cases k : o = n
  · subst k
    rw [e, nI_toInt ha.2] at hi
    exact q o i (by omega) (by rw [e, nI_toInt ha.2]; exact hi)
  · exact q o i (by omega) hi
theorem uAcQ {n j : Nat} {f g h : Nat → Int32} (hn : n ≤ j) (q : uAc j 0 f g h) : uAc n 0 f g h := fun o i ho hi => q o i (by omega) hi
theorem uAcUse {n o i a : Nat} {f g h : Nat → Int32} (q : uAc n 0 f g h) (ho : o < n) (e : f o = nI a) (hi : i < a) (ha : a < 2 ^ 31) (h7 : ¬ g (o * 4 + i) = 7) (h10 : ¬ g (o * 4 + i) = 10) (h11 : ¬ g (o * 4 + i) = 11) : 0 ≤ h (o * 4 + i) ∧ h (o * 4 + i) ≤ 9 := by
  rcases q o i (Or.inl ho) (by rw [e, nI_toInt ha]; omega) with (k | k | k) | k
  · exact absurd k h7
  · exact absurd k h10
  · exact absurd k h11
  · exact k
/-! the first tally -/
def uT0 (f : Nat → Int32) : Prop := 0 ≤ f 0 ∧ f 0 ≤ 200
theorem uT0k {f : Nat → Int32} {k : Nat} {v : Int32} (hk : k ≠ 0) (h : uT0 f) : uT0 (upd f k v) := by
  unfold uT0; rw [pk_un (Ne.symm hk)]; exact h
theorem uT0u {f : Nat → Int32} {a : Nat} (ha : a ≤ 200) : uT0 (upd f 0 (nI a)) := by
  unfold uT0; rw [pk_us]; exact ⟨uLoN (by simp only [Int32.reduceToInt]; omega) (by omega), uHiN (by simp only [Int32.reduceToInt]; omega) (by omega)⟩
theorem uT0n {f : Nat → Int32} (h : uT0 f) : ∃ a : Nat, a ≤ 200 ∧ f 0 = nI a := by
  obtain ⟨h0, h1⟩ := h
  rw [Int32.le_iff_toInt_le] at h0 h1
  simp only [Int32.reduceToInt] at h0 h1
  obtain ⟨a, ha, e⟩ := uNat (n := 201) h0 (by omega) (by decide)
  exact ⟨a, by omega, e⟩
def uFl (n : Nat) (f : Nat → Int32) (v : Int32) : Prop := ∀ k, k < n → f k = v
theorem uFl0 {f : Nat → Int32} {v : Int32} : uFl 0 f v := fun _ h => absurd h (Nat.not_lt_zero _)
theorem uFlS {n : Nat} {f : Nat → Int32} {v : Int32} (h : uFl n f v) : uFl (n + 1) (upd f n v) v := by
  intro k hk
  by_cases e : k = n
  · subst e; exact pk_us
  · rw [pk_un e]; exact h k (by omega)
theorem uFlQ {n m : Nat} {f : Nat → Int32} {v : Int32} (hn : m ≤ n) (h : uFl n f v) : uFl m f v := fun k hk => h k (by omega)
theorem uT0f {f : Nat → Int32} (h : uFl 5 f 0) : uT0 f := by
  unfold uT0; rw [h 0 (by decide)]; decide
theorem uMulLe {a b c d : Nat} (h1 : a ≤ b) (h2 : c ≤ d) : a * c ≤ b * d := Nat.mul_le_mul h1 h2

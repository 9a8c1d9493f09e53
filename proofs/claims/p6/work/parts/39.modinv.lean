/-! the model: spans, cells, sums -/
theorem uRngN {x0 x1 : Int32} {w : Nat} (h0 : ¬ x0 < 0) (h1 : ¬ x1 < x0) (h2 : ¬ nI w ≤ x1) (hw : w < 2 ^ 31) : ∃ a b : Nat, a ≤ b ∧ b < w ∧ x0 = nI a ∧ x1 = nI b := by
  obtain ⟨a, ha, rfl⟩ := nI_of h0
  have h3 : ¬ x1 < 0 := by
    rw [Int32.lt_iff_toInt_lt] at h0 h1 ⊢; simp only [Int32.reduceToInt] at h0 h1 ⊢; omega
  obtain ⟨b, hb, rfl⟩ := nI_of h3
  exact ⟨a, b, Nat.le_of_not_lt (fun q => h1 ((nI_ltI hb ha).mpr q)), Nat.lt_of_not_le (fun q => h2 ((nI_leI hw hb).mpr q)), rfl, rfl⟩
def uDf (f : Nat → Int32) (a b : Nat) : Nat := if (f a).toNatClampNeg ≤ (f b).toNatClampNeg then (f b).toNatClampNeg - (f a).toNatClampNeg else (f a).toNatClampNeg - (f b).toNatClampNeg
def uSpn (f g : Nat → Int32) (a b : Nat) : Nat := if uDf f a b < uDf g a b then uDf g a b else uDf f a b
theorem uDfE {f : Nat → Int32} {a b p q : Nat} (hp : p < 16) (hq : q < 16) (e1 : f a = nI p) (e2 : f b = nI q) : (if 0 ≤ nI q - nI p then nI q - nI p else 0 - (nI q - nI p)) = nI (uDf f a b) ∧ uDf f a b = (if p ≤ q then q - p else p - q) := by
  have h : uDf f a b = (if p ≤ q then q - p else p - q) := by unfold uDf; rw [e1, e2, nI_clamp (by omega), nI_clamp (by omega)]
  exact ⟨by rw [h]; exact uAbs0 p hp q hq, h⟩
theorem uR15 {f : Nat → Int32} (h : uRg f 0 15) (k : Nat) : ∃ a : Nat, a < 16 ∧ f k = nI a := by
  obtain ⟨a, ha, e⟩ := uRnat h k (by decide)
  simp only [Int32.reduceToInt] at ha
  exact ⟨a, by omega, e⟩
theorem uDf15 {f : Nat → Int32} (h : uRg f 0 15) (a b : Nat) : uDf f a b ≤ 15 := by
  obtain ⟨p, hp, e1⟩ := uR15 h a
  obtain ⟨q, hq, e2⟩ := uR15 h b
  rw [(uDfE hp hq e1 e2).2]; split <;> omega
theorem uSp15 {f g : Nat → Int32} (hf : uRg f 0 15) (hg : uRg g 0 15) {a b : Nat} : uSpn f g a b ≤ 15 := by
  unfold uSpn; split
  · exact uDf15 hg a b
  · exact uDf15 hf a b
theorem uSpE {f g : Nat → Int32} {a b p q p' q' : Nat} (hf : uRg f 0 15) (hg : uRg g 0 15) (e1 : f a = nI p) (e2 : f b = nI q) (e3 : g a = nI p') (e4 : g b = nI q') : (if (if 0 ≤ nI q - nI p then nI q - nI p else 0 - (nI q - nI p)) < (if 0 ≤ nI q' - nI p' then nI q' - nI p' else 0 - (nI q' - nI p')) then (if 0 ≤ nI q' - nI p' then nI q' - nI p' else 0 - (nI q' - nI p')) else (if 0 ≤ nI q - nI p then nI q - nI p else 0 - (nI q - nI p))) = nI (uSpn f g a b) := by
  obtain ⟨p0, hp, e1'⟩ := uR15 hf a
  obtain ⟨q0, hq, e2'⟩ := uR15 hf b
  obtain ⟨p1, hp1, e3'⟩ := uR15 hg a
  obtain ⟨q1, hq1, e4'⟩ := uR15 hg b
  rw [← e1, ← e2, ← e3, ← e4, e1', e2', e3', e4', (uDfE hp hq e1' e2').1, (uDfE hp1 hq1 e3' e4').1]
  have k1 := uDf15 hf a b
  have k2 := uDf15 hg a b
  unfold uSpn
  by_cases h : uDf f a b < uDf g a b
  · rw [if_pos ((nI_ltI (by omega) (by omega)).mpr h), if_pos h]
  · rw [if_neg (fun q => h ((nI_ltI (by omega) (by omega)).mp q)), if_neg h]
theorem uSpX {f g : Nat → Int32} {a b p q : Nat} (hf : uRg f 0 15) (hg : uRg g 0 15) (e1 : f a = nI p) (e2 : f b = nI q) (hp : p < 16) (hq : q < 16) : p ≤ q + uSpn f g a b ∧ q ≤ p + uSpn f g a b := by
  have h := (uDfE hp hq e1 e2).2
  have h2 : uDf f a b ≤ uSpn f g a b := by unfold uSpn; split <;> omega
  rw [h] at h2
  split at h2 <;> omega
theorem uSpY {f g : Nat → Int32} {a b p q : Nat} (hf : uRg f 0 15) (hg : uRg g 0 15) (e1 : g a = nI p) (e2 : g b = nI q) (hp : p < 16) (hq : q < 16) : p ≤ q + uSpn f g a b ∧ q ≤ p + uSpn f g a b := by
  have h := (uDfE hp hq e1 e2).2
  have h2 : uDf g a b ≤ uSpn f g a b := by unfold uSpn; split <;> omega
  rw [h] at h2
  split at h2 <;> omega
def uCt (d k : Int32) (n : Nat) : Int32 := if 0 ≤ (2 * d * k + nI n) - (2 * d * k + nI n) / nI (2 * n) * nI (2 * n) then (2 * d * k + nI n) / nI (2 * n) else (2 * d * k + nI n) / nI (2 * n) - 1
def uCk (n k d : Nat) : Bool := if 1 ≤ n ∧ k ≤ n ∧ d ≤ n then (decide (uCt (nI d) (nI k) n = nI ((2 * d * k + n) / (2 * n))) && decide ((2 * d * k + n) / (2 * n) ≤ d)) && (decide (uCt (0 - nI d) (nI k) n = 0 - nI ((2 * d * k + n - 1) / (2 * n))) && decide ((2 * d * k + n - 1) / (2 * n) ≤ d)) else true
set_option maxRecDepth 100000 in
theorem uCk0 : ∀ n : Nat, n < 16 → ∀ k : Nat, k < 16 → ∀ d : Nat, d < 16 → uCk n k d = true := by decide +kernel
theorem uCt0 (n : Nat) (hn : n < 16) (k : Nat) (hk : k < 16) (d : Nat) (hd : d < 16) (h : 1 ≤ n ∧ k ≤ n ∧ d ≤ n) : (uCt (nI d) (nI k) n = nI ((2 * d * k + n) / (2 * n)) ∧ (2 * d * k + n) / (2 * n) ≤ d) ∧ uCt (0 - nI d) (nI k) n = 0 - nI ((2 * d * k + n - 1) / (2 * n)) ∧ (2 * d * k + n - 1) / (2 * n) ≤ d := by
  have q := uCk0 n hn k hk d hd
  unfold uCk at q
  rw [if_pos h, Bool.and_eq_true, Bool.and_eq_true, Bool.and_eq_true, decide_eq_true_eq, decide_eq_true_eq, decide_eq_true_eq, decide_eq_true_eq] at q
  exact q
theorem uNegS {a b : Nat} (h : b ≤ a) : nI b - nI a = 0 - nI (a - b) := by
  rw [← pk_sub h, Int32.zero_sub, Int32.neg_sub]
theorem uCutX {a b n k : Nat} (ha : a < 16) (hb : b < 16) (hn : n ≤ 15) (h1 : 1 ≤ n) (hk : k ≤ n) (hd : a ≤ b + n ∧ b ≤ a + n) : ∃ e : Nat, e ≤ 15 ∧ nI a + (if 0 ≤ (2 * (nI b - nI a) * nI k + nI n) - (2 * (nI b - nI a) * nI k + nI n) / nI (2 * n) * nI (2 * n) then (2 * (nI b - nI a) * nI k + nI n) / nI (2 * n) else (2 * (nI b - nI a) * nI k + nI n) / nI (2 * n) - 1) = nI e := by
  show ∃ e : Nat, e ≤ 15 ∧ nI a + uCt (nI b - nI a) (nI k) n = nI e
  by_cases h : a ≤ b
  · obtain ⟨⟨q, q2⟩, _⟩ := uCt0 n (by omega) k (by omega) (b - a) (by omega) ⟨h1, hk, by omega⟩
    rw [pk_sub h, q]
    generalize (2 * (b - a) * k + n) / (2 * n) = X at q q2 ⊢
    exact ⟨a + X, by omega, nI_add _ _⟩
  · obtain ⟨_, q, q2⟩ := uCt0 n (by omega) k (by omega) (a - b) (by omega) ⟨h1, hk, by omega⟩
    rw [uNegS (by omega), q]
    generalize (2 * (a - b) * k + n - 1) / (2 * n) = X at q q2 ⊢
    refine ⟨a - X, by omega, ?_⟩
    rw [← pk_sub (by omega), Int32.zero_sub, ← Int32.sub_eq_add_neg]
theorem uBy0 {a : Nat} (h1 : 1 ≤ a) (h2 : a ≤ 15) : ¬ (1000 : Int64) * (nI a).toInt64 = 0 := by
  have : ∀ a : Nat, a < 16 → 1 ≤ a → ¬ (1000 : Int64) * (nI a).toInt64 = 0 := by decide +kernel
  exact this a (by omega) h1
theorem uNtDF {s f g : Nat → Int32} {a b : Nat} (h : uNt s f g) (k : Nat) (es : s k = nI a) (ef : f k = nI b) (ha : a < 2 ^ 31) (hb : b < 2 ^ 31) : a = 6 ∨ b ≤ 11 := by
  by_cases q : a = 6
  · exact Or.inl q
  · exact Or.inr (uNtF h k es ef ⟨q, ha⟩ hb)
theorem uNtDG {s f g : Nat → Int32} {a b : Nat} (h : uNt s f g) (k : Nat) (es : s k = nI a) (ef : g k = nI b) (ha : a < 2 ^ 31) (hb : b < 2 ^ 31) : a = 2 ∨ a = 3 → b ≤ 11 := fun q => uNtG h k es ef q hb
/-! sums -/
def uSm : Nat → (Nat → Int32) → Nat
  | 0, _ => 0
  | n + 1, f => uSm n f + (f n).toNatClampNeg
theorem uSmU {n : Nat} {f : Nat → Int32} {k : Nat} {v : Int32} (hk : k < n) : uSm n (upd f k v) + (f k).toNatClampNeg = uSm n f + v.toNatClampNeg := by
  induction n with
  | zero => omega
  | succ n ih =>
    unfold uSm
    by_cases e : k = n
    · subst e
      rw [pk_us]
      have : ∀ m, m ≤ k → uSm m (upd f k v) = uSm m f := by
        intro m hm
        induction m with
        | zero => rfl
        | succ m ihm => unfold uSm; rw [ihm (by omega), pk_un (by omega)]
      rw [this k (Nat.le_refl _)]; omega
    · rw [pk_un (Ne.symm e)]
      have := ih (by omega)
      omega
theorem uSmB {n : Nat} {f : Nat → Int32} {B : Nat} (h : ∀ k, (f k).toNatClampNeg ≤ B) : uSm n f ≤ n * B := by
  induction n with
  | zero => unfold uSm; omega
  | succ n ih => unfold uSm; have := h n; rw [Nat.add_mul]; omega
theorem uSmX {n : Nat} {f g : Nat → Int32} (h : ∀ k, k < n → f k = g k) : uSm n f = uSm n g := by
  induction n with
  | zero => rfl
  | succ n ih => unfold uSm; rw [ih (fun k hk => h k (by omega)), h n (by omega)]
theorem uR500 {f : Nat → Int32} (h : uRg f 0 500) (k : Nat) : ∃ a : Nat, a ≤ 500 ∧ f k = nI a := by
  obtain ⟨a, ha, e⟩ := uRnat h k (by decide)
  simp only [Int32.reduceToInt] at ha
  exact ⟨a, by omega, e⟩
def uMs (f g : Nat → Int32) : Nat := 24 * 500 - uSm 24 f + uSm 24 g
def mQv (m : Nat) (x : Int32) (m' : Nat) (x' : Int32) : Prop := m' ≤ m ∧ (x' = x ∨ m' < m)
theorem mQvR (m : Nat) (x : Int32) : mQv m x m x := ⟨Nat.le_refl _, Or.inl rfl⟩
theorem mQvT {m m1 m2 : Nat} {x x1 x2 : Int32} (h : mQv m x m1 x1) (k : mQv m1 x1 m2 x2) : mQv m x m2 x2 := by
  obtain ⟨a, b⟩ := h
  obtain ⟨c, d⟩ := k
  refine ⟨by omega, ?_⟩
  rcases d with rfl | d
  · rcases b with b | b
    · exact Or.inl b
    · exact Or.inr (by omega)
  · exact Or.inr (by omega)
theorem mQvL {f g : Nat → Int32} {x : Int32} {v a b : Nat} (hf : uRg f 0 500) (hg : uRg g 0 500) (hv : v < 24) (ea : f v = nI a) (_eb : True) (h : a < b ∧ b ≤ 500) : mQv (uMs f g) x (uMs (upd f v (nI b)) g) 1 := by
  have k := uSmU (n := 24) (f := f) (k := v) (v := nI b) hv
  rw [ea, nI_clamp (by omega), nI_clamp (by omega)] at k
  have k2 : uSm 24 (upd f v (nI b)) ≤ 24 * 500 := uSmB (fun j => by
    by_cases e : j = v
    · subst e; rw [pk_us, nI_clamp (by omega)]; omega
    · rw [pk_un e]; obtain ⟨c, hc, e2⟩ := uR500 hf j; rw [e2, nI_clamp (by omega)]; exact hc)
  have : uMs (upd f v (nI b)) g < uMs f g := by unfold uMs; omega
  exact ⟨by omega, Or.inr this⟩
theorem mQvM {f g : Nat → Int32} {x : Int32} {v a b : Nat} (hv : v < 24) (ea : g v = nI a) (h : b < a ∧ a ≤ 500) : mQv (uMs f g) x (uMs f (upd g v (nI b))) 1 := by
  have k := uSmU (n := 24) (f := g) (k := v) (v := nI b) hv
  rw [ea, nI_clamp (by omega), nI_clamp (by omega)] at k
  have : uMs f (upd g v (nI b)) < uMs f g := by unfold uMs; omega
  exact ⟨by omega, Or.inr this⟩
/-- the measure of the loop that goes on while something moved -/
def uMw (m : Nat) (x : Int32) : Nat := if x = 0 then 0 else m + 1
theorem uMwLt {m m' n : Nat} {x x' : Int32} (h : mQv m 0 m' x') (hx : ¬ x = 0) (hm : uMw m x < n + 1) : uMw m' x' < n := by
  unfold uMw at hm ⊢
  rw [if_neg hx] at hm
  obtain ⟨a, b⟩ := h
  by_cases e : x' = 0
  · rw [if_pos e]; omega
  · rw [if_neg e]
    rcases b with b | b
    · exact absurd b e
    · omega
/-! bits -/
def uLeU (a b : Int32) : Prop := a.toBitVec.toNat ≤ b.toBitVec.toNat
def uCo (a : Int32) : Nat := 2 ^ 32 - a.toBitVec.toNat
theorem uLe0 (b : Int32) : uLeU 0 b := Nat.zero_le _
theorem uLeR (b : Int32) : uLeU b b := Nat.le_refl _
theorem uLeO {a b x : Int32} (h : uLeU a b) : uLeU a (b ||| x) := by
  unfold uLeU at h ⊢
  rw [Int32.toBitVec_or, BitVec.toNat_or]
  exact Nat.le_trans h Nat.left_le_or
theorem uLeLt {a b : Int32} {n : Nat} (h : uLeU a b) (hne : ¬ a = b) (hm : uCo a < n + 1) : uCo b < n := by
  unfold uLeU at h
  unfold uCo at hm ⊢
  have h1 : a.toBitVec.toNat ≠ b.toBitVec.toNat := fun q => hne (Int32.toBitVec_inj.mp (BitVec.eq_of_toNat_eq q))
  have h2 := b.toBitVec.isLt
  have h3 := a.toBitVec.isLt
  omega
def uBz0 (x : Int32) (j : Nat) : Prop := ∀ i, i < j → x.toBitVec.getLsbD i = false
theorem uBzZ (x : Int32) : uBz0 x 0 := fun _ h => absurd h (Nat.not_lt_zero _)
theorem uShl1 {p : Nat} (hp : p ≤ 12) : ∃ a : Nat, a ≤ 4096 ∧ (1 : Int32) <<< (nI p &&& 31) = nI a := by
  have : ∀ p : Nat, p < 13 → (1 : Int32) <<< (nI p &&& 31) = nI (2 ^ p) ∧ 2 ^ p ≤ 4096 := by decide +kernel
  exact ⟨2 ^ p, (this p (by omega)).2, (this p (by omega)).1⟩
def uLr (y : Int32) (r j : Nat) : Prop := y = -1 ∨ r ≤ j
theorem uLrS {y : Int32} {r j : Nat} (h : uLr y r j) : uLr y r (j + 1) := by rcases h with h | h; exact Or.inl h; exact Or.inr (by omega)
theorem uLrN {y : Int32} {r j : Nat} (h : uLr y r j) (k : ¬ y = -1) : r ≤ j := by rcases h with h | h; exact absurd h k; exact h
set_option maxRecDepth 100000 in
theorem uSmd : ∀ j : Nat, j < 32 → ((nI j &&& 31).toBitVec.smod 32).toNat = j := by decide +kernel
theorem uBit {x : Int32} {j : Nat} (hj : j < 32) (c : x >>> (nI j &&& 31) &&& 1 = 0) : x.toBitVec.getLsbD j = false := by
  have h := congrArg (fun z : Int32 => z.toBitVec.getLsbD 0) c
  simp only [Int32.toBitVec_and, BitVec.getLsbD_and] at h
  have h1 : (1 : Int32).toBitVec.getLsbD 0 = true := by decide
  have h0 : (0 : Int32).toBitVec.getLsbD 0 = false := by decide
  rw [h1, h0, Bool.and_true, Int32.toBitVec_shiftRight] at h
  unfold BitVec.sshiftRight' at h
  rw [uSmd j hj, BitVec.getLsbD_sshiftRight] at h
  simp only [Nat.add_zero] at h
  rw [if_pos hj] at h
  simpa using h
theorem uBzS {x : Int32} {j : Nat} (hj : j < 32) (h : uBz0 x j) (c : x >>> (nI j &&& 31) &&& 1 = 0) : uBz0 x (j + 1) := by
  intro i hi
  by_cases e : i = j
  · subst e; exact uBit hj c
  · exact h i (by omega)
theorem uBzL {x : Int32} {j : Nat} (h : uBz0 x j) (c : x >>> (nI j &&& 31) &&& 1 = 0) (hx : ¬ x = 0) (hj : j ≤ 31) : j < 31 := by
  by_cases e : j = 31
  · subst e
    have k := uBzS (by omega) h c
    refine absurd (Int32.toBitVec_inj.mp (BitVec.eq_of_getLsbD_eq (fun i hi => ?_))) hx
    rw [k i hi]
    simp
  · omega
section ULDC
variable {p : Program} {l : Launch} {e : Env} {R : Room} {s : State} {m : MethodId} {args : Array Value} {below : List Frame} {meth : Method} {c : Code} {H : Heap} {locs : List Loc} {cells slots : Nat} {Q : State → Prop}
variable {cc : ByteArray} {pc : Nat} {ls : Array Slot} {rest : List Value} {A : Nat → Prop} {D : va_G} {K : Nat → ClassId} {nm : String} {nL : Nat} {ret : Option FieldType}
theorem uSldc12 (B : uB p s m args meth c D K RX12 nm cc nL ret A) (hdg : decode cc pc = .ok (.ldc_w 417, 3)) (kk : W p l e R s m args below meth c H locs cells slots Q (F0 m (pc + 3) ls (.ref (K 10) :: rest))) : W p l e R s m args below meth c H locs cells slots Q (F0 m pc ls rest) := by
  obtain ⟨hx, hb, hr, hml, hown, hts, hlocks, hnm, hK, hA, hN, hZ⟩ := B
  intro T hT X
  obtain ⟨t, a1, b1⟩ := kk T hT X
  exact ⟨t, Stand.ldcStringW X hx hown (text := uTx) (a := K 10) hZ.2.2.1.1 hZ.2.2.1.2 (g := F0 m pc ls rest) rfl (by rw [hb]; exact hdg) t a1, b1⟩
end ULDC

noncomputable def uIte {α : Type} (P : Prop) (a b : α) : α := @ite α P (Classical.propDecidable P) a b
theorem uItP {α : Type} {P : Prop} {a b : α} (h : P) : uIte P a b = a := by unfold uIte; exact if_pos h
theorem uItN {α : Type} {P : Prop} {a b : α} (h : ¬ P) : uIte P a b = b := by unfold uIte; exact if_neg h
def uN (x : Int32) : Nat := x.toInt.toNat
theorem uNe {x : Int32} {a : Nat} (h : a < 2 ^ 31) (e : x = nI a) : uN x = a := by rw [e]; exact congrArg Int.toNat (nI_toInt h)
def uHas (n : Nat) (x : Int32) : Prop := 0 ≤ x.toInt ∧ x.toInt < (n : Int)
def uInL (x y : Int32) (w h : Nat) : Prop := (0 ≤ x.toInt ∧ x.toInt < (w : Int)) ∧ (0 ≤ y.toInt ∧ y.toInt < (h : Int))
def uFree (f g : Nat → Int32) (n : Nat) (x y : Int32) : Prop := ∀ k, k < n → ¬ (f k = x ∧ g k = y)
theorem uFree0 {f g : Nat → Int32} {x y : Int32} : uFree f g 0 x y := fun k h => absurd h (Nat.not_lt_zero k)
theorem uFreeA {f g : Nat → Int32} {j : Nat} {x y v : Int32} (h : uFree f g j x y) (e : f j = v) (c : ¬ v = x) : uFree f g (j + 1) x y := by
  intro k hk hq
  by_cases h1 : k < j
  · exact h k h1 hq
  · have h2 : k = j := by omega
    rw [h2] at hq
    exact c (e.symm.trans hq.1)
theorem uFreeB {f g : Nat → Int32} {j : Nat} {x y v : Int32} (h : uFree f g j x y) (e : g j = v) (c : ¬ v = y) : uFree f g (j + 1) x y := by
  intro k hk hq
  by_cases h1 : k < j
  · exact h k h1 hq
  · have h2 : k = j := by omega
    rw [h2] at hq
    exact c (e.symm.trans hq.2)
theorem uFreeQ {f g : Nat → Int32} {j n : Nat} {x y : Int32} (hn : n ≤ j) (h : uFree f g j x y) : uFree f g n x y := fun k hk => h k (Nat.lt_of_lt_of_le hk hn)
theorem uFreeX {f g : Nat → Int32} {j n : Nat} {x y : Int32} (hj : j < n) (e1 : f j = x) (e2 : g j = y) : ¬ uFree f g n x y := fun h => h j hj ⟨e1, e2⟩
theorem uUpE {f : Nat → Int32} {i j : Nat} {v w : Int32} (hi : i = j) (hv : v = w) : upd f i v = upd f j w := by rw [hi, hv]
def uDL (x y : Int32) : Prop := (4 ≤ x.toInt ∧ x.toInt ≤ 16) ∧ (4 ≤ y.toInt ∧ y.toInt ≤ 16)
def uDP (x y a b d : Int32) (w h n : Nat) (f g : Nat → Int32) : Prop := ((0 ≤ x.toInt ∧ x.toInt < (w : Int)) ∧ (0 ≤ y.toInt ∧ y.toInt < (h : Int)) ∧ 1 ≤ a.toInt ∧ a.toInt ≤ b.toInt ∧ b.toInt ≤ 40 ∧ 0 ≤ d.toInt ∧ d.toInt ≤ 50 ∧ n < 12) ∧ uFree f g n x y
def uDD (x : Int32) (n : Nat) (f : Nat → Int32) : Prop := (0 ≤ x.toInt ∧ x.toInt < (n : Int)) ∧ f (uN x) = 1
def uDS (x y : Int32) (n : Nat) (f : Nat → Int32) : Prop := (0 ≤ x.toInt ∧ x.toInt < (n : Int) ∧ 0 ≤ y.toInt ∧ y.toInt ≤ 9999) ∧ f (uN x) = 0
def uDN (x y z : Int32) (n k : Nat) : Prop := (0 ≤ x.toInt ∧ x.toInt ≤ 5) ∧ (0 ≤ y.toInt ∧ y.toInt < (n : Int)) ∧ (((x.toInt = 2 ∨ x.toInt = 3) ∧ 0 ≤ z.toInt ∧ z.toInt < (n : Int) ∧ ¬ y.toInt = z.toInt) ∨ (¬ (x.toInt = 2 ∨ x.toInt = 3) ∧ 0 ≤ z.toInt ∧ z.toInt ≤ 500)) ∧ k < 60
def uDK (x : Int32) (k : Nat) : Prop := (0 ≤ x.toInt ∧ x.toInt < (k : Int)) ∧ k < 60
def uDF (k : Nat) : Prop := k ≤ 980
def uDG (a b c d e f : Int32) (w h : Nat) : Prop := (0 ≤ a.toInt ∧ a.toInt ≤ c.toInt ∧ c.toInt < (w : Int)) ∧ (0 ≤ b.toInt ∧ b.toInt ≤ d.toInt ∧ d.toInt < (h : Int)) ∧ 0 ≤ e.toInt ∧ e.toInt ≤ 999 ∧ 0 ≤ f.toInt ∧ f.toInt ≤ 3
def uDR (x : Int32) (k : Nat) : Prop := 0 ≤ x.toInt ∧ x.toInt ≤ (k : Int)
/-! what is seen: cells between, tops, eyes, the first cell that shuts -/
def uBt (a b k n : Nat) : Nat := (2 * (a * (n - k) + b * k) + n) / (2 * n)
def uBw (f : Nat → Int32) (a b k n : Nat) : Nat := uBt (uN (f a)) (uN (f b)) k n
theorem uBwE {f : Nat → Int32} {a b p q k n : Nat} (hp : p < 2 ^ 31) (hq : q < 2 ^ 31) (e1 : f a = nI p) (e2 : f b = nI q) : uBw f a b k n = uBt p q k n := by
  unfold uBw
  rw [uNe hp e1, uNe hq e2]
theorem uBt15 {a b k n : Nat} (ha : a < 16) (hb : b < 16) (hk : k ≤ n) (hn : 1 ≤ n) : uBt a b k n ≤ 15 := uBetw ha hb hk hn
theorem uBtM {a b k n w : Nat} (ha : a < w) (hb : b < w) (hk : k ≤ n) (hn : 1 ≤ n) : uBt a b k n < w := by
  unfold uBt
  have h1 : a * (n - k) ≤ (w - 1) * (n - k) := Nat.mul_le_mul_right _ (by omega)
  have h2 : b * k ≤ (w - 1) * k := Nat.mul_le_mul_right _ (by omega)
  have h3 : (w - 1) * (n - k) + (w - 1) * k = (w - 1) * n := by
    rw [← Nat.mul_add, show n - k + k = n by omega]
  have h4 : (2 * (a * (n - k) + b * k) + n) < w * (2 * n) := by
    have h5 : w * (2 * n) = 2 * ((w - 1) * n) + 2 * n := by
      obtain ⟨v, rfl⟩ : ∃ v, w = v + 1 := ⟨w - 1, by omega⟩
      rw [Nat.add_sub_cancel, Nat.add_mul, Nat.one_mul, Nat.mul_left_comm]
    omega
  have h6 : (2 * (a * (n - k) + b * k) + n) < 2 * n * w := by
    rw [Nat.mul_comm (2 * n) w]; exact h4
  exact Nat.div_lt_of_lt_mul h6
def uB4 (n k a b : Nat) : Bool := if 1 ≤ n ∧ k ≤ n then (if a ≤ b then decide (uBt a b k n = a + (2 * (b - a) * k + n) / (2 * n)) else decide (uBt a b k n + (2 * (a - b) * k + n - 1) / (2 * n) = a)) else true
set_option maxRecDepth 100000 in
theorem uB40 : ∀ n : Nat, n < 16 → ∀ k : Nat, k < 16 → ∀ a : Nat, a < 16 → ∀ b : Nat, b < 16 → uB4 n k a b = true := by decide +kernel
theorem uCutB {a b n k : Nat} (ha : a < 16) (hb : b < 16) (hn : n ≤ 15) (h1 : 1 ≤ n) (hk : k ≤ n) (hd : a ≤ b + n ∧ b ≤ a + n) : nI a + (if 0 ≤ (2 * (nI b - nI a) * nI k + nI n) - (2 * (nI b - nI a) * nI k + nI n) / nI (2 * n) * nI (2 * n) then (2 * (nI b - nI a) * nI k + nI n) / nI (2 * n) else (2 * (nI b - nI a) * nI k + nI n) / nI (2 * n) - 1) = nI (uBt a b k n) := by
  show nI a + uCt (nI b - nI a) (nI k) n = nI (uBt a b k n)
  have q4 := uB40 n (by omega) k (by omega) a ha b hb
  unfold uB4 at q4
  rw [if_pos ⟨h1, hk⟩] at q4
  by_cases h : a ≤ b
  · obtain ⟨⟨q, q2⟩, _⟩ := uCt0 n (by omega) k (by omega) (b - a) (by omega) ⟨h1, hk, by omega⟩
    rw [if_pos h, decide_eq_true_eq] at q4
    rw [pk_sub h, q, q4, nI_add]
  · obtain ⟨_, q, q2⟩ := uCt0 n (by omega) k (by omega) (a - b) (by omega) ⟨h1, hk, by omega⟩
    rw [if_neg h, decide_eq_true_eq] at q4
    rw [uNegS (by omega), q]
    generalize (2 * (a - b) * k + n - 1) / (2 * n) = X at q q2 q4 ⊢
    rw [show uBt a b k n = a - X by omega, ← pk_sub (by omega), Int32.zero_sub, ← Int32.sub_eq_add_neg]
noncomputable def uTp (h w t1 t2 : Nat → Int32) (c : Nat) (s : Int32) : Int32 := h c + uIte (s = 0) (t1 (uN (w c))) (t2 (uN (w c)))
theorem uTp0 {h w t1 t2 : Nat → Int32} {c a : Nat} {s : Int32} (hs : s = 0) (ha : a < 2 ^ 31) (e : w c = nI a) : h c + t1 a = uTp h w t1 t2 c s := by
  unfold uTp
  rw [uItP hs, uNe ha e]
theorem uTp1 {h w t1 t2 : Nat → Int32} {c a : Nat} {s : Int32} (hs : ¬ s = 0) (ha : a < 2 ^ 31) (e : w c = nI a) : h c + t2 a = uTp h w t1 t2 c s := by
  unfold uTp
  rw [uItN hs, uNe ha e]
noncomputable def uEy (h t1 t2 : Nat → Int32) (c p : Nat) (s : Int32) : Int32 := h c + uIte (s = 0) (t2 p) (t1 p)
theorem uEy0 {h t1 t2 : Nat → Int32} {c p : Nat} {s : Int32} (hs : s = 0) : h c + t2 p = uEy h t1 t2 c p s := by
  unfold uEy
  rw [uItP hs]
theorem uEy1 {h t1 t2 : Nat → Int32} {c p : Nat} {s : Int32} (hs : ¬ s = 0) : h c + t1 p = uEy h t1 t2 c p s := by
  unfold uEy
  rw [uItN hs]
def uXt (t bd : Int32) (k n : Nat) : Int32 := 1000 * t + bd * nI k * (nI n - nI k)
def uXe (ea eb : Int32) (k n : Nat) : Int32 := ea * (nI n - nI k) + eb * nI k
def uXc (t bd ea eb : Int32) (k n : Nat) : Int32 := (1000 * t + bd * nI k * (nI n - nI k)) * nI n - 1000 * (ea * (nI n - nI k) + eb * nI k)
def uXm (t bd ea eb : Int32) (k n : Nat) : Int32 := if (1000 * t + bd * nI k * (nI n - nI k)).toInt64 * (nI n).toInt64 > 1000 * (ea * (nI n - nI k) + eb * nI k).toInt64 then 1 else if (1000 * t + bd * nI k * (nI n - nI k)).toInt64 * (nI n).toInt64 = 1000 * (ea * (nI n - nI k) + eb * nI k).toInt64 then 0 else -1
noncomputable def uSk (P : Nat → Prop) (n : Nat) : Nat → Nat
  | 0 => 0
  | m + 1 => uIte (P (n - (m + 1))) (n - (m + 1)) (uSk P n m)
theorem uSk0 {P : Nat → Prop} {n : Nat} : uSk P n 0 = 0 := rfl
theorem uSkY {P : Nat → Prop} {n j : Nat} (hj : j < n) (h : P j) : uSk P n (n - j) = j := by
  obtain ⟨m, hm⟩ : ∃ m, n - j = m + 1 := ⟨n - j - 1, by omega⟩
  have e : n - (m + 1) = j := by omega
  rw [hm]
  show uIte (P (n - (m + 1))) (n - (m + 1)) (uSk P n m) = j
  rw [e, uItP h]
theorem uSkN {P : Nat → Prop} {n j : Nat} (hj : j < n) (h : ¬ P j) : uSk P n (n - j) = uSk P n (n - (j + 1)) := by
  obtain ⟨m, hm⟩ : ∃ m, n - j = m + 1 := ⟨n - j - 1, by omega⟩
  have e : n - (m + 1) = j := by omega
  have e2 : n - (j + 1) = m := by omega
  rw [hm, e2]
  show uIte (P (n - (m + 1))) (n - (m + 1)) (uSk P n m) = uSk P n m
  rw [e, uItN h]
theorem uSkZ {P : Nat → Prop} {n j : Nat} (hj : n ≤ j) : uSk P n (n - j) = 0 := by
  rw [show n - j = 0 by omega]
  rfl
theorem uSkC {P Q : Nat → Prop} {n : Nat} (h : ∀ k, 1 ≤ k → k < n → (P k ↔ Q k)) : ∀ m, m < n → uSk P n m = uSk Q n m
  | 0, _ => rfl
  | m + 1, hm => by
    show uIte (P (n - (m + 1))) (n - (m + 1)) (uSk P n m) = uIte (Q (n - (m + 1))) (n - (m + 1)) (uSk Q n m)
    rw [uSkC h m (by omega)]
    by_cases q : P (n - (m + 1))
    · rw [uItP q, uItP ((h _ (by omega) (by omega)).mp q)]
    · rw [uItN q, uItN (fun r => q ((h _ (by omega) (by omega)).mpr r))]
theorem uSkL {P : Nat → Prop} {n : Nat} : ∀ m, uSk P n m ≤ n
  | 0 => Nat.zero_le _
  | m + 1 => by
    show uIte (P (n - (m + 1))) (n - (m + 1)) (uSk P n m) ≤ n
    by_cases q : P (n - (m + 1))
    · rw [uItP q]; omega
    · rw [uItN q]; exact uSkL m
def uRe (f g : Nat → Int32) (a b : Nat) (c : Int32) : Prop := ¬ c * c < (f b - f a) * (f b - f a) + (g b - g a) * (g b - g a)
noncomputable def uLv (A : Prop) (F : Nat) (A' : Prop) (F' : Nat) : Int32 := uIte (A ∧ F = 0) 2 (uIte (A' ∧ F' = 0) 1 0)
theorem uLv2 {A A' : Prop} {F F' : Nat} (h : A ∧ F = 0) : 2 = uLv A F A' F' := by unfold uLv; rw [uItP h]
theorem uLv1 {A A' : Prop} {F F' : Nat} (h : ¬ (A ∧ F = 0)) (h' : A' ∧ F' = 0) : 1 = uLv A F A' F' := by unfold uLv; rw [uItN h, uItP h']
theorem uLv0 {A A' : Prop} {F F' : Nat} (h : ¬ (A ∧ F = 0)) (h' : ¬ (A' ∧ F' = 0)) : 0 = uLv A F A' F' := by unfold uLv; rw [uItN h, uItN h']
/-! class and model: the cell k -/
def uPc (h w t1 t2 : Nat → Int32) (bd : Int32) (f g cl lo hg : Nat → Int32) (a b : Nat) (s : Int32) (k : Nat) : Prop := ¬ uXc (uTp h w t1 t2 (uBw g a b k (uSpn f g a b) * 16 + uBw f a b k (uSpn f g a b)) s) bd (uEy h lo hg (uN (cl a)) a s) (uEy h lo hg (uN (cl b)) b s) k (uSpn f g a b) ≤ 0
noncomputable def uFc (h w t1 t2 : Nat → Int32) (bd : Int32) (f g cl lo hg : Nat → Int32) (a b : Nat) (s : Int32) : Nat := uSk (uPc h w t1 t2 bd f g cl lo hg a b s) (uSpn f g a b) (uSpn f g a b - 1)
def uPm (h w t1 t2 : Nat → Int32) (bd : Int32) (f g lo hg : Nat → Int32) (W : Nat) (a b : Nat) (s : Int32) (k : Nat) : Prop := ¬ uXm (uTp h w t1 t2 (W * uBw g a b k (uSpn f g a b) + uBw f a b k (uSpn f g a b)) s) bd (uEy h lo hg (W * uN (g a) + uN (f a)) a s) (uEy h lo hg (W * uN (g b) + uN (f b)) b s) k (uSpn f g a b) ≤ 0
noncomputable def uFm (h w t1 t2 : Nat → Int32) (bd : Int32) (f g lo hg : Nat → Int32) (W : Nat) (a b : Nat) (s : Int32) : Nat := uSk (uPm h w t1 t2 bd f g lo hg W a b s) (uSpn f g a b) (uSpn f g a b - 1)
theorem uSubLe {A B : Nat} (hA : A < 2 ^ 30) (hB : B < 2 ^ 30) : nI A - nI B ≤ 0 ↔ A ≤ B := by
  rw [Int32.le_iff_toInt_le, pk_sub_toInt (by omega) (by omega)]
  simp only [Int32.reduceToInt]
  omega
theorem uMulB {a b A B : Nat} (ha : a ≤ A) (hb : b ≤ B) : a * b ≤ A * B := Nat.mul_le_mul ha hb
theorem uXE {t b e1 e2 k n : Nat} (ht : t ≤ 1059) (hb : b ≤ 999) (h1 : e1 ≤ 1039) (h2 : e2 ≤ 1039) (hk : k < n) (hn : n ≤ 15) : (uXc (nI t) (nI b) (nI e1) (nI e2) k n ≤ 0) ↔ (uXm (nI t) (nI b) (nI e1) (nI e2) k n ≤ 0) := by
  have m1 := uMulB hb (show k ≤ 15 by omega)
  have m2 := uMulB m1 (show n - k ≤ 15 by omega)
  have m3 := uMulB (show 1000 * t + b * k * (n - k) ≤ 1000 * 1059 + 999 * 15 * 15 by omega) hn
  have m4 := uMulB h1 (show n - k ≤ 15 by omega)
  have m5 := uMulB h2 (show k ≤ 15 by omega)
  have eA : (1000 : Int32) * nI t + nI b * nI k * (nI n - nI k) = nI (1000 * t + b * k * (n - k)) := by
    rw [show (1000 : Int32) = nI 1000 from rfl, pk_sub (by omega), pk_mul, pk_mul, pk_mul, nI_add]
  have eB : nI e1 * (nI n - nI k) + nI e2 * nI k = nI (e1 * (n - k) + e2 * k) := by
    rw [pk_sub (by omega), pk_mul, pk_mul, nI_add]
  unfold uXc uXm
  rw [eA, eB]
  generalize hA1 : 1000 * t + b * k * (n - k) = A1 at m3 ⊢
  generalize hE1 : e1 * (n - k) + e2 * k = E1
  have hE2 : E1 ≤ 1039 * 15 + 1039 * 15 := by omega
  have hA2 : A1 ≤ 1000 * 1059 + 999 * 15 * 15 := by omega
  rw [show (1000 : Int32) = nI 1000 from rfl, pk_mul, pk_mul, uSubLe (by omega) (by omega), nI_l (by omega), nI_l (by omega), nI_l (by omega), show (1000 : Int64) = lN 1000 from rfl, lN_mul, lN_mul]
  by_cases h : 1000 * E1 < A1 * n
  · rw [if_pos (show lN (A1 * n) > lN (1000 * E1) from (lN_lt (by omega) (by omega)).mpr h)]
    constructor
    · intro q; omega
    · intro q; exact absurd q (by decide)
  · rw [if_neg (show ¬ lN (A1 * n) > lN (1000 * E1) from fun q => h ((lN_lt (by omega) (by omega)).mp q))]
    constructor
    · intro q
      by_cases h' : lN (A1 * n) = lN (1000 * E1)
      · rw [if_pos h']; decide
      · rw [if_neg h']; decide
    · intro q; omega
/-! the two lands -/
def uHW (h w hm wm : Nat → Int32) (W H : Nat) : Prop := ∀ i j, i < W → j < H → h (j * 16 + i) = hm (W * j + i) ∧ w (j * 16 + i) = wm (W * j + i) ∧ 0 ≤ (h (j * 16 + i)).toInt ∧ (h (j * 16 + i)).toInt ≤ 999
def uPo (f g cl lo hg : Nat → Int32) (n W H : Nat) : Prop := ∀ k, k < n → (f k).toInt < (W : Int) ∧ (g k).toInt < (H : Int) ∧ cl k = nI (uN (g k) * 16 + uN (f k)) ∧ (0 ≤ (lo k).toInt ∧ (lo k).toInt ≤ 40) ∧ (0 ≤ (hg k).toInt ∧ (hg k).toInt ≤ 40)
def uTg (t : Nat → Int32) : Prop := ∀ k, k < 4 → 0 ≤ (t k).toInt ∧ (t k).toInt ≤ 60
theorem uOfI {x : Int32} {b : Nat} (h0 : 0 ≤ x.toInt) (h1 : x.toInt ≤ (b : Int)) (hb : b + 1 < 2 ^ 31) : ∃ a : Nat, a ≤ b ∧ x = nI a := by
  obtain ⟨a, ha, e⟩ := uNat (x := x) (n := b + 1) h0 (by omega) (by omega)
  exact ⟨a, by omega, e⟩
theorem uNum {h w hm wm t1 t2 f g cl lo hg : Nat → Int32} {bd s : Int32} {W H n a b : Nat} (hW : W ≤ 16) (hH : H ≤ 16) (rw_ : uRg w 0 3) (rf : uRg f 0 15) (rg : uRg g 0 15) (r1 : uTg t1) (r2 : uTg t2) (hb0 : 0 ≤ bd.toInt) (hb1 : bd.toInt ≤ 999) (hh : uHW h w hm wm W H) (hp : uPo f g cl lo hg n W H) (ha : a < n) (hb : b < n) {k : Nat} (k1 : 1 ≤ k) (k2 : k < uSpn f g a b) : ∃ t y1 y2 bn : Nat, (t ≤ 1059 ∧ y1 ≤ 1039 ∧ y2 ≤ 1039 ∧ bn ≤ 999) ∧ bd = nI bn ∧ (uTp h w t1 t2 (uBw g a b k (uSpn f g a b) * 16 + uBw f a b k (uSpn f g a b)) s = nI t ∧ uTp hm wm t1 t2 (W * uBw g a b k (uSpn f g a b) + uBw f a b k (uSpn f g a b)) s = nI t) ∧ (uEy h lo hg (uN (cl a)) a s = nI y1 ∧ uEy hm lo hg (W * uN (g a) + uN (f a)) a s = nI y1) ∧ (uEy h lo hg (uN (cl b)) b s = nI y2 ∧ uEy hm lo hg (W * uN (g b) + uN (f b)) b s = nI y2) := by
  have hsp := uSp15 rf rg (a := a) (b := b)
  obtain ⟨pa, ha1, ea⟩ := uR15 rf a
  obtain ⟨pb, hb2, eb⟩ := uR15 rf b
  obtain ⟨qa, ha3, ea'⟩ := uR15 rg a
  obtain ⟨qb, hb4, eb'⟩ := uR15 rg b
  obtain ⟨la, la', la2, la3, la4⟩ := hp a ha
  obtain ⟨lb, lb', lb2, lb3, lb4⟩ := hp b hb
  rw [ea, nI_toInt (by omega)] at la
  rw [eb, nI_toInt (by omega)] at lb
  rw [ea', nI_toInt (by omega)] at la'
  rw [eb', nI_toInt (by omega)] at lb'
  have cX := uBtM (a := pa) (b := pb) (k := k) (n := uSpn f g a b) (w := W) (by omega) (by omega) (by omega) (by omega)
  have cY := uBtM (a := qa) (b := qb) (k := k) (n := uSpn f g a b) (w := H) (by omega) (by omega) (by omega) (by omega)
  have eX : uBw f a b k (uSpn f g a b) = uBt pa pb k (uSpn f g a b) := uBwE (by omega) (by omega) ea eb
  have eY : uBw g a b k (uSpn f g a b) = uBt qa qb k (uSpn f g a b) := uBwE (by omega) (by omega) ea' eb'
  obtain ⟨v1, v2, v3, v4⟩ := hh _ _ cX cY
  have nA : uN (cl a) = qa * 16 + pa := by rw [la2, uNe (by omega) ea, uNe (by omega) ea']; exact uNe (by omega) rfl
  have nB : uN (cl b) = qb * 16 + pb := by rw [lb2, uNe (by omega) eb, uNe (by omega) eb']; exact uNe (by omega) rfl
  obtain ⟨u1, u2, u3, u4⟩ := hh pa qa (by omega) (by omega)
  obtain ⟨x1, x2, x3, x4⟩ := hh pb qb (by omega) (by omega)
  obtain ⟨hv, hv1, ehv⟩ := uOfI (b := 999) v3 (by omega) (by omega)
  obtain ⟨hu, hu1, ehu⟩ := uOfI (b := 999) u3 (by omega) (by omega)
  obtain ⟨hx, hx1, ehx⟩ := uOfI (b := 999) x3 (by omega) (by omega)
  obtain ⟨bn, hbn, ebn⟩ := uOfI (b := 999) hb0 (by omega) (by omega)
  obtain ⟨wv, hwv, ewv⟩ := uRnat rw_ (uBt qa qb k (uSpn f g a b) * 16 + uBt pa pb k (uSpn f g a b)) (by decide)
  simp only [Int32.reduceToInt] at hwv
  obtain ⟨g1, g2⟩ := r1 wv (by omega)
  obtain ⟨g3, g4⟩ := r2 wv (by omega)
  obtain ⟨tv1, htv1, etv1⟩ := uOfI (b := 60) g1 (by omega) (by omega)
  obtain ⟨tv2, htv2, etv2⟩ := uOfI (b := 60) g3 (by omega) (by omega)
  obtain ⟨l1, hl1, el1⟩ := uOfI (b := 40) la3.1 (by omega) (by omega)
  obtain ⟨l2, hl2, el2⟩ := uOfI (b := 40) lb3.1 (by omega) (by omega)
  obtain ⟨l3, hl3, el3⟩ := uOfI (b := 40) la4.1 (by omega) (by omega)
  obtain ⟨l4, hl4, el4⟩ := uOfI (b := 40) lb4.1 (by omega) (by omega)
  -- the three numbers of this cell
  obtain ⟨t, ht, et, et'⟩ : ∃ t : Nat, t ≤ 1059 ∧ uTp h w t1 t2 (uBw g a b k (uSpn f g a b) * 16 + uBw f a b k (uSpn f g a b)) s = nI t ∧ uTp hm wm t1 t2 (W * uBw g a b k (uSpn f g a b) + uBw f a b k (uSpn f g a b)) s = nI t := by
    rw [eX, eY]
    by_cases hs : s = 0
    · refine ⟨hv + tv1, by omega, ?_, ?_⟩
      · rw [← uTp0 hs (by omega) ewv, ehv, etv1, nI_add]
      · rw [← uTp0 hs (show wv < 2 ^ 31 by omega) (v2.symm.trans ewv), ← v1, ehv, etv1, nI_add]
    · refine ⟨hv + tv2, by omega, ?_, ?_⟩
      · rw [← uTp1 hs (by omega) ewv, ehv, etv2, nI_add]
      · rw [← uTp1 hs (show wv < 2 ^ 31 by omega) (v2.symm.trans ewv), ← v1, ehv, etv2, nI_add]
  obtain ⟨y1, hy1, ey1, ey1'⟩ : ∃ y : Nat, y ≤ 1039 ∧ uEy h lo hg (uN (cl a)) a s = nI y ∧ uEy hm lo hg (W * uN (g a) + uN (f a)) a s = nI y := by
    rw [nA, uNe (by omega) ea, uNe (by omega) ea']
    by_cases hs : s = 0
    · refine ⟨hu + l3, by omega, ?_, ?_⟩
      · rw [← uEy0 hs, ehu, el3, nI_add]
      · rw [← uEy0 hs, ← u1, ehu, el3, nI_add]
    · refine ⟨hu + l1, by omega, ?_, ?_⟩
      · rw [← uEy1 hs, ehu, el1, nI_add]
      · rw [← uEy1 hs, ← u1, ehu, el1, nI_add]
  obtain ⟨y2, hy2, ey2, ey2'⟩ : ∃ y : Nat, y ≤ 1039 ∧ uEy h lo hg (uN (cl b)) b s = nI y ∧ uEy hm lo hg (W * uN (g b) + uN (f b)) b s = nI y := by
    rw [nB, uNe (by omega) eb, uNe (by omega) eb']
    by_cases hs : s = 0
    · refine ⟨hx + l4, by omega, ?_, ?_⟩
      · rw [← uEy0 hs, ehx, el4, nI_add]
      · rw [← uEy0 hs, ← x1, ehx, el4, nI_add]
    · refine ⟨hx + l2, by omega, ?_, ?_⟩
      · rw [← uEy1 hs, ehx, el2, nI_add]
      · rw [← uEy1 hs, ← x1, ehx, el2, nI_add]
  exact ⟨t, y1, y2, bn, ⟨ht, hy1, hy2, hbn⟩, ebn, ⟨et, et'⟩, ⟨ey1, ey1'⟩, ey2, ey2'⟩
theorem uFE {h w hm wm t1 t2 f g cl lo hg : Nat → Int32} {bd s : Int32} {W H n a b : Nat} (hW : W ≤ 16) (hH : H ≤ 16) (rw_ : uRg w 0 3) (rf : uRg f 0 15) (rg : uRg g 0 15) (r1 : uTg t1) (r2 : uTg t2) (hb0 : 0 ≤ bd.toInt) (hb1 : bd.toInt ≤ 999) (hh : uHW h w hm wm W H) (hp : uPo f g cl lo hg n W H) (ha : a < n) (hb : b < n) : uFc h w t1 t2 bd f g cl lo hg a b s = uFm hm wm t1 t2 bd f g lo hg W a b s := by
  unfold uFc uFm
  have hsp := uSp15 rf rg (a := a) (b := b)
  by_cases h0 : uSpn f g a b = 0
  · rw [show uSpn f g a b - 1 = 0 by omega, uSk0, uSk0]
  refine uSkC ?_ _ (by omega)
  intro k k1 k2
  obtain ⟨t, y1, y2, bn, ⟨ht, hy1, hy2, hbn⟩, ebn, ⟨et, et'⟩, ⟨ey1, ey1'⟩, ey2, ey2'⟩ := uNum (s := s) hW hH rw_ rf rg r1 r2 hb0 hb1 hh hp ha hb k1 k2
  unfold uPc uPm
  rw [et, et', ey1, ey1', ey2, ey2', ebn]
  exact not_congr (uXE ht hbn hy1 hy2 k2 hsp)
def uSd (x : Int32) (n : Nat) (st : Nat → Int32) : Prop := (0 ≤ x.toInt ∧ x.toInt < (n : Int)) ∧ ¬ st (uN x) = 2
def uD2 (x y : Int32) (n : Nat) (st : Nat → Int32) : Prop := (¬ x = y) ∧ uSd x n st ∧ uSd y n st
def uTm (x y : Int32) : Prop := (0 ≤ x.toInt ∧ x.toInt ≤ 11) ∧ (0 ≤ y.toInt ∧ y.toInt ≤ 1)
theorem uSdN {x : Int32} {n : Nat} {st : Nat → Int32} (h : uSd x n st) : uN x < n := by
  obtain ⟨⟨h1, h2⟩, -⟩ := h
  unfold uN
  omega
theorem uSiE {h w hm wm t1 t2 f g cl lo hg st : Nat → Int32} {bd X Y : Int32} {W H n : Nat} {A A' T : Prop} (hW : W ≤ 16) (hH : H ≤ 16) (rw_ : uRg w 0 3) (rf : uRg f 0 15) (rg : uRg g 0 15) (r1 : uTg t1) (r2 : uTg t2) (hb0 : 0 ≤ bd.toInt) (hb1 : bd.toInt ≤ 999) (hh : uHW h w hm wm W H) (hp : uPo f g cl lo hg n W H) : uIte (uD2 X Y n st ∧ T) (uLv A (uFc h w t1 t2 bd f g cl lo hg (uN X) (uN Y) 1) A' (uFc h w t1 t2 bd f g cl lo hg (uN X) (uN Y) 0)) (-1) = uIte (uD2 X Y n st ∧ T) (uLv A (uFm hm wm t1 t2 bd f g lo hg W (uN X) (uN Y) 1) A' (uFm hm wm t1 t2 bd f g lo hg W (uN X) (uN Y) 0)) (-1) := by
  by_cases q : uD2 X Y n st ∧ T
  · rw [uItP q, uItP q, uFE hW hH rw_ rf rg r1 r2 hb0 hb1 hh hp (uSdN q.1.2.1) (uSdN q.1.2.2), uFE hW hH rw_ rf rg r1 r2 hb0 hb1 hh hp (uSdN q.1.2.1) (uSdN q.1.2.2)]
  · rw [uItN q, uItN q]
/-! the lands are laid alike -/
theorem uIteC {α : Type} {P Q : Prop} {a b : α} (h : P ↔ Q) : uIte P a b = uIte Q a b := by
  by_cases q : P
  · rw [uItP q, uItP (h.mp q)]
  · rw [uItN q, uItN (fun r => q (h.mpr r))]
theorem uIdx {A i j i' j' : Nat} (hi : i < A) (hi' : i' < A) (e : j * A + i = j' * A + i') : i = i' ∧ j = j' := by
  have hA : 0 < A := by omega
  have e1 : (j * A + i) % A = i := by rw [Nat.add_comm, Nat.add_mul_mod_self_right, Nat.mod_eq_of_lt hi]
  have e2 : (j' * A + i') % A = i' := by rw [Nat.add_comm, Nat.add_mul_mod_self_right, Nat.mod_eq_of_lt hi']
  have e3 : i = i' := by rw [← e1, ← e2, e]
  refine ⟨e3, ?_⟩
  have e4 : j * A = j' * A := by omega
  exact Nat.eq_of_mul_eq_mul_right hA e4
/-- inside the rectangle from (a0, b0) to the columns ≤ a1, rows below y, and of row y the columns below x -/
def uLi (A : Nat) (f f' : Nat → Int32) (v : Int32) (a0 a1 b0 y x : Nat) : Prop := ∀ i j, i < A → f' (j * A + i) = uIte (a0 ≤ i ∧ i ≤ a1 ∧ b0 ≤ j ∧ (j < y ∨ (j = y ∧ i < x))) v (f (j * A + i))
theorem uLi0 {A : Nat} {f : Nat → Int32} {v : Int32} {a0 a1 b0 : Nat} : uLi A f f v a0 a1 b0 b0 0 := by
  intro i j _
  rw [uItN (by omega)]
theorem uLiI {A : Nat} {f f' : Nat → Int32} {v : Int32} {a0 a1 b0 y : Nat} (h : uLi A f f' v a0 a1 b0 y 0) : uLi A f f' v a0 a1 b0 y a0 := by
  intro i j hi
  rw [h i j hi]
  exact uIteC (by omega)
theorem uLiS {A k : Nat} {f f' : Nat → Int32} {v : Int32} {a0 a1 b0 y x : Nat} (h : uLi A f f' v a0 a1 b0 y x) (hk : k = y * A + x) (hx : x < A) (h1 : a0 ≤ x) (h2 : x ≤ a1) (h3 : b0 ≤ y) : uLi A f (upd f' k v) v a0 a1 b0 y (x + 1) := by
  intro i j hi
  by_cases e : j * A + i = k
  · obtain ⟨e1, e2⟩ := uIdx hi hx (e.trans hk)
    rw [e, pk_us, uItP (by omega)]
  · rw [pk_un e, h i j hi]
    refine uIteC ?_
    have ne : ¬ (i = x ∧ j = y) := fun q => e (by rw [q.1, q.2]; exact hk.symm)
    omega
theorem uLiE {A : Nat} {f f' : Nat → Int32} {v : Int32} {a0 a1 b0 y x : Nat} (h : uLi A f f' v a0 a1 b0 y x) (hx : a1 < x) : uLi A f f' v a0 a1 b0 (y + 1) 0 := by
  intro i j hi
  rw [h i j hi]
  exact uIteC (by omega)
/-- all the rectangle, if D -/
def uLa (A : Nat) (f f' : Nat → Int32) (D : Prop) (x0 y0 x1 y1 v : Int32) : Prop := (¬ D → f' = f) ∧ (D → ∀ i j, i < A → f' (j * A + i) = uIte (x0.toInt ≤ (i : Int) ∧ (i : Int) ≤ x1.toInt ∧ y0.toInt ≤ (j : Int) ∧ (j : Int) ≤ y1.toInt) v (f (j * A + i)))
theorem uLaN {A : Nat} {f : Nat → Int32} {D : Prop} {x0 y0 x1 y1 v : Int32} (h : ¬ D) : uLa A f f D x0 y0 x1 y1 v := ⟨fun _ => rfl, fun q => absurd q h⟩
theorem uLaP {A : Nat} {f f' : Nat → Int32} {D : Prop} {x0 y0 x1 y1 v : Int32} {a0 b0 a1 b1 y : Nat} (h : D) (q : uLi A f f' v a0 a1 b0 y 0) (hy : y = b1 + 1) (e0 : x0 = nI a0) (e1 : y0 = nI b0) (e2 : x1 = nI a1) (e3 : y1 = nI b1) (l0 : a0 < 2 ^ 31) (l1 : b0 < 2 ^ 31) (l2 : a1 < 2 ^ 31) (l3 : b1 < 2 ^ 31) : uLa A f f' D x0 y0 x1 y1 v := by
  refine ⟨fun r => absurd h r, fun _ i j hi => ?_⟩
  rw [q i j hi, e0, e1, e2, e3, nI_toInt l0, nI_toInt l1, nI_toInt l2, nI_toInt l3]
  exact uIteC (by omega)
theorem uHWg {h w h' w' hm wm hm' wm' : Nat → Int32} {W Wm H : Nat} {D D' : Prop} {x0 y0 x1 y1 v u : Int32} (hW : W ≤ 16) (eWm : W = Wm) (q : uHW h w hm wm W H) (hD : D ↔ D') (hv : D → 0 ≤ v.toInt ∧ v.toInt ≤ 999) (c1 : uLa 16 h h' D x0 y0 x1 y1 v) (c2 : uLa 16 w w' D x0 y0 x1 y1 u) (m1 : uLa Wm hm hm' D' x0 y0 x1 y1 v) (m2 : uLa Wm wm wm' D' x0 y0 x1 y1 u) : uHW h' w' hm' wm' W H := by
  subst eWm
  intro i j hi hj
  obtain ⟨q1, q2, q3, q4⟩ := q i j hi hj
  by_cases d : D
  · have k1 := c1.2 d i j (by omega)
    have k2 := c2.2 d i j (by omega)
    have k3 := m1.2 (hD.mp d) i j hi
    have k4 := m2.2 (hD.mp d) i j hi
    rw [Nat.mul_comm j W] at k3 k4
    obtain ⟨v1, v2⟩ := hv d
    rw [k1, k2, k3, k4, q1, q2]
    refine ⟨rfl, rfl, ?_⟩
    rw [← q1]
    by_cases r : x0.toInt ≤ (i : Int) ∧ (i : Int) ≤ x1.toInt ∧ y0.toInt ≤ (j : Int) ∧ (j : Int) ≤ y1.toInt
    · rw [uItP r]; exact ⟨v1, v2⟩
    · rw [uItN r]; exact ⟨q3, q4⟩
  · rw [c1.1 d, c2.1 d, m1.1 (fun r => d (hD.mpr r)), m2.1 (fun r => d (hD.mpr r))]
    exact ⟨q1, q2, q3, q4⟩
/-- all 0, if D -/
def uLz (f f' : Nat → Int32) (D : Prop) : Prop := (¬ D → f' = f) ∧ (D → ∀ k, k < 256 → f' k = 0)
theorem uHWl {h w h' w' hm wm hm' wm' : Nat → Int32} {W H W' H' : Nat} {D : Prop} (q : uHW h w hm wm W H) (hW : W' ≤ 16) (hH : H' ≤ 16) (eW : ¬ D → W' = W) (eH : ¬ D → H' = H) (c1 : uLz h h' D) (c2 : uLz w w' D) (m1 : uLz hm hm' D) (m2 : uLz wm wm' D) : uHW h' w' hm' wm' W' H' := by
  intro i j hi hj
  by_cases d : D
  · have b1 : j * 16 + i < 256 := by omega
    have b2 : W' * j + i < 256 := by
      have := Nat.mul_le_mul hW (show j ≤ 15 by omega)
      omega
    rw [c1.2 d _ b1, c2.2 d _ b1, m1.2 d _ b2, m2.2 d _ b2]
    exact ⟨rfl, rfl, by decide, by decide⟩
  · rw [c1.1 d, c2.1 d, m1.1 d, m2.1 d, eW d]
    rw [eW d] at hi
    rw [eH d] at hj
    exact q i j hi hj
theorem uPsl {f g cl lo hg : Nat → Int32} {n W H n' W' H' : Nat} {D : Prop} (q : uPo f g cl lo hg n W H) (e1 : D → n' = 0) (e2 : ¬ D → n' = n ∧ W' = W ∧ H' = H) : uPo f g cl lo hg n' W' H' := by
  by_cases d : D
  · intro k hk; rw [e1 d] at hk; exact absurd hk (Nat.not_lt_zero k)
  · obtain ⟨a, b, c⟩ := e2 d
    rw [a, b, c]; exact q
theorem uPsp {f g cl lo hg f' g' cl' lo' hg' : Nat → Int32} {n n' W H : Nat} {D : Prop} {x y a b : Int32} (q : uPo f g cl lo hg n W H) (hD : D → (0 ≤ x.toInt ∧ x.toInt < (W : Int)) ∧ (0 ≤ y.toInt ∧ y.toInt < (H : Int)) ∧ 1 ≤ a.toInt ∧ a.toInt ≤ b.toInt ∧ b.toInt ≤ 40) (en : n' = uIte D (n + 1) n) (ef : f' = uIte D (upd f n x) f) (eg : g' = uIte D (upd g n y) g) (ec : cl' = uIte D (upd cl n (nI (uN y * 16 + uN x))) cl) (el : lo' = uIte D (upd lo n a) lo) (eh : hg' = uIte D (upd hg n b) hg) : uPo f' g' cl' lo' hg' n' W H := by
  by_cases d : D
  · obtain ⟨⟨d1, d2⟩, ⟨d3, d4⟩, d5, d6, d7⟩ := hD d
    rw [uItP d] at en ef eg ec el eh
    subst en ef eg ec el eh
    intro k hk
    by_cases e : k = n
    · subst e
      rw [pk_us, pk_us, pk_us, pk_us, pk_us]
      exact ⟨d2, d4, rfl, ⟨by omega, by omega⟩, by omega, d7⟩
    · rw [pk_un e, pk_un e, pk_un e, pk_un e, pk_un e]
      exact q k (by omega)
  · rw [uItN d] at en ef eg ec el eh
    subst en ef eg ec el eh
    exact q
theorem uTgu {t t' : Nat → Int32} {D : Prop} {k : Nat} {v : Int32} (q : uTg t) (hv : D → 0 ≤ v.toInt ∧ v.toInt ≤ 60) (e : t' = uIte D (upd t k v) t) : uTg t' := by
  by_cases d : D
  · rw [uItP d] at e
    subst e
    intro j hj
    by_cases h : j = k
    · subst h; rw [pk_us]; exact hv d
    · rw [pk_un h]; exact q j hj
  · rw [uItN d] at e
    subst e
    exact q
theorem uLzN {f : Nat → Int32} {D : Prop} (h : ¬ D) : uLz f f D := ⟨fun _ => rfl, fun q => absurd q h⟩
theorem uLzP {f f' : Nat → Int32} {D : Prop} (h : D) (q : uFl 256 f' 0) : uLz f f' D := ⟨fun r => absurd h r, fun _ => q⟩
theorem uIt01 {P : Prop} : uIte P (1 : Int32) 0 = 0 ∨ uIte P (1 : Int32) 0 = 1 := by
  by_cases h : P
  · exact Or.inr (uItP h)
  · exact Or.inl (uItN h)
def uDT (x y z : Int32) : Prop := (1 ≤ x.toInt ∧ x.toInt ≤ 3) ∧ 0 ≤ y.toInt ∧ y.toInt ≤ z.toInt ∧ z.toInt ≤ 60
def uDB (x : Int32) : Prop := 0 ≤ x.toInt ∧ x.toInt ≤ 999
def uDH (x y a b : Int32) : Prop := ((0 ≤ x.toInt ∧ x.toInt ≤ 11) ∧ (0 ≤ y.toInt ∧ y.toInt ≤ 1)) ∧ 0 ≤ a.toInt ∧ a.toInt ≤ b.toInt ∧ b.toInt ≤ 30
theorem uBdu {b b' x : Int32} (q : 0 ≤ b.toInt ∧ b.toInt ≤ 999) (e : b' = uIte (uDB x) x b) : 0 ≤ b'.toInt ∧ b'.toInt ≤ 999 := by
  by_cases d : uDB x
  · rw [e, uItP d]; exact d
  · rw [e, uItN d]; exact q
theorem uBlE {h w hm wm t1 t2 f g cl lo hg st : Nat → Int32} {bd X Y s : Int32} {W H n : Nat} (hW : W ≤ 16) (hH : H ≤ 16) (rw_ : uRg w 0 3) (rf : uRg f 0 15) (rg : uRg g 0 15) (r1 : uTg t1) (r2 : uTg t2) (hb0 : 0 ≤ bd.toInt) (hb1 : bd.toInt ≤ 999) (hh : uHW h w hm wm W H) (hp : uPo f g cl lo hg n W H) : uIte (uD2 X Y n st ∧ ¬ uFc h w t1 t2 bd f g cl lo hg (uN X) (uN Y) s = 0) (nI (W * uBw g (uN X) (uN Y) (uFc h w t1 t2 bd f g cl lo hg (uN X) (uN Y) s) (uSpn f g (uN X) (uN Y)) + uBw f (uN X) (uN Y) (uFc h w t1 t2 bd f g cl lo hg (uN X) (uN Y) s) (uSpn f g (uN X) (uN Y)))) (-1) = uIte (uD2 X Y n st ∧ ¬ uFm hm wm t1 t2 bd f g lo hg W (uN X) (uN Y) s = 0) (nI (W * uBw g (uN X) (uN Y) (uFm hm wm t1 t2 bd f g lo hg W (uN X) (uN Y) s) (uSpn f g (uN X) (uN Y)) + uBw f (uN X) (uN Y) (uFm hm wm t1 t2 bd f g lo hg W (uN X) (uN Y) s) (uSpn f g (uN X) (uN Y)))) (-1) := by
  by_cases q : uD2 X Y n st
  · rw [uFE hW hH rw_ rf rg r1 r2 hb0 hb1 hh hp (uSdN q.2.1) (uSdN q.2.2)]
  · rw [uItN (fun r => q r.1), uItN (fun r => q r.1)]
theorem uZ0 : 0 ≤ (0 : Int32).toInt ∧ (0 : Int32).toInt ≤ 60 ∧ (0 : Int32).toInt ≤ 999 := by decide
theorem uHW0 : uHW (fun _ => 0) (fun _ => 0) (fun _ => 0) (fun _ => 0) 4 4 := fun _ _ _ _ => ⟨rfl, rfl, uZ0.1, uZ0.2.2⟩
theorem uTg0 : uTg (fun _ => 0) := fun _ _ => ⟨uZ0.1, uZ0.2.1⟩
/-! sets of posts as bits -/
def ukB (x : Int32) (q : Nat) : Prop := x.toBitVec.getLsbD q = true
theorem ukX {x y : Int32} (h : ∀ q, q < 32 → (ukB x q ↔ ukB y q)) : x = y := by
  refine Int32.toBitVec_inj.mp (BitVec.eq_of_getLsbD_eq (fun q hq => ?_))
  exact Bool.eq_iff_iff.mpr (h q hq)
theorem ukO {x y : Int32} {q : Nat} : ukB (x ||| y) q ↔ ukB x q ∨ ukB y q := by
  unfold ukB
  rw [Int32.toBitVec_or, BitVec.getLsbD_or, Bool.or_eq_true]
theorem ukA {x y : Int32} {q : Nat} : ukB (x &&& y) q ↔ ukB x q ∧ ukB y q := by
  unfold ukB
  rw [Int32.toBitVec_and, BitVec.getLsbD_and, Bool.and_eq_true]
theorem ukM1 : ∀ q : Nat, q < 32 → (-1 : Int32).toBitVec.getLsbD q = true := by decide +kernel
theorem ukC {x : Int32} {q : Nat} (hq : q < 32) : ukB (x ^^^ (-1)) q ↔ ¬ ukB x q := by
  unfold ukB
  rw [Int32.toBitVec_xor, BitVec.getLsbD_xor, ukM1 q hq]
  generalize x.toBitVec.getLsbD q = b
  cases b <;> decide
theorem ukLt {x : Int32} {q : Nat} (h : ukB x q) : q < 32 := by
  by_cases c : q < 32
  · exact c
  · unfold ukB at h
    rw [BitVec.getLsbD_of_ge _ _ (by omega)] at h
    exact absurd h (by decide)
theorem uk0 {q : Nat} : ¬ ukB 0 q := by
  unfold ukB
  simp
set_option maxRecDepth 100000 in
theorem ukSh : ∀ k : Nat, k < 32 → ∀ q : Nat, q < 32 → ((1 : Int32) <<< (nI k &&& 31)).toBitVec.getLsbD q = decide (q = k) := by decide +kernel
theorem uk1 {k q : Nat} (hk : k < 32) : ukB ((1 : Int32) <<< (nI k &&& 31)) q ↔ q = k := by
  by_cases c : q < 32
  · unfold ukB
    rw [ukSh k hk q c, decide_eq_true_eq]
  · exact ⟨fun h => absurd (ukLt h) c, fun h => absurd hk (by omega)⟩
theorem ukS2 {x : Int32} {k : Nat} (hk : k < 32) : ukB (x >>> (nI k &&& 31)) 0 ↔ ukB x k := by
  have h1 : (x >>> (nI k &&& 31)).toBitVec.getLsbD 0 = x.toBitVec.getLsbD k := by
    rw [Int32.toBitVec_shiftRight]
    unfold BitVec.sshiftRight'
    rw [uSmd k hk, BitVec.getLsbD_sshiftRight]
    simp only [Nat.add_zero]
    rw [if_pos hk]
    simp
  unfold ukB
  rw [h1]
theorem ukS1 {y : Int32} : y &&& 1 = 1 ↔ ukB y 0 := by
  have h2 : y &&& 1 = nI (y.toBitVec.toNat % 2 ^ 1) := pk_and y 1 (by decide)
  have h4 : y.toBitVec.getLsbD 0 = decide (y.toBitVec.toNat % 2 = 1) := by rw [← BitVec.testBit_toNat, Nat.testBit_zero]
  rw [h2]
  unfold ukB
  rw [h4, decide_eq_true_eq]
  exact nI_eq (a := y.toBitVec.toNat % 2) (b := 1) (by omega) (by omega)
theorem ukS0 {y : Int32} : y &&& 1 = 0 ↔ ¬ ukB y 0 := by
  have h2 : y &&& 1 = nI (y.toBitVec.toNat % 2 ^ 1) := pk_and y 1 (by decide)
  have h4 : y.toBitVec.getLsbD 0 = decide (y.toBitVec.toNat % 2 = 1) := by rw [← BitVec.testBit_toNat, Nat.testBit_zero]
  rw [h2]
  unfold ukB
  rw [h4, decide_eq_true_eq]
  have h5 := nI_eq (a := y.toBitVec.toNat % 2) (b := 0) (by omega) (by omega)
  constructor
  · intro h
    have h6 := h5.mp h
    omega
  · intro h
    exact h5.mpr (by omega)
theorem ukS {x : Int32} {k : Nat} (hk : k < 32) : x >>> (nI k &&& 31) &&& 1 = 1 ↔ ukB x k := ukS1.trans (ukS2 hk)
theorem ukSz {x : Int32} {k : Nat} (hk : k < 32) : x >>> (nI k &&& 31) &&& 1 = 0 ↔ ¬ ukB x k := ukS0.trans (not_congr (ukS2 hk))
theorem ukSS {x : Int32} {a b : Nat} (ha : a < 32) (hb : b < 32) : x >>> (nI a &&& 31) &&& x >>> (nI b &&& 31) &&& 1 = 1 ↔ ukB x a ∧ ukB x b := ukS1.trans (ukA.trans (and_congr (ukS2 ha) (ukS2 hb)))
noncomputable def ukSet (P : Nat → Prop) : Nat → Int32
  | 0 => 0
  | k + 1 => uIte (P k) (ukSet P k ||| (1 <<< (nI k &&& 31))) (ukSet P k)
theorem ukSetY {P : Nat → Prop} {k : Nat} {x : Int32} (e : x = ukSet P k) (h : P k) : x ||| (1 <<< (nI k &&& 31)) = ukSet P (k + 1) := by
  rw [e]; exact (uItP h).symm
theorem ukSetN {P : Nat → Prop} {k : Nat} {x : Int32} (e : x = ukSet P k) (h : ¬ P k) : x = ukSet P (k + 1) := e.trans (uItN h).symm
theorem ukSetB {P : Nat → Prop} {q : Nat} : ∀ n, n ≤ 32 → (ukB (ukSet P n) q ↔ q < n ∧ P q)
  | 0, _ => ⟨fun h => absurd h uk0, fun h => absurd h.1 (Nat.not_lt_zero _)⟩
  | n + 1, hn => by
    have ih := ukSetB (P := P) (q := q) n (by omega)
    by_cases c : P n
    · rw [← ukSetY rfl c, ukO, ih, uk1 (by omega)]
      constructor
      · rintro (h | h)
        · exact ⟨Nat.lt_succ_of_lt h.1, h.2⟩
        · rw [h]; exact ⟨Nat.lt_succ_self n, c⟩
      · rintro ⟨h, k⟩
        by_cases e : q = n
        · exact Or.inr e
        · exact Or.inl ⟨by omega, k⟩
    · rw [← ukSetN rfl c, ih]
      constructor
      · rintro ⟨h, k⟩; exact ⟨Nat.lt_succ_of_lt h, k⟩
      · rintro ⟨h, k⟩
        have e : q ≠ n := fun e => c (e ▸ k)
        exact ⟨by omega, k⟩
theorem ukSetX {P Q : Nat → Prop} {n : Nat} (hn : n ≤ 32) (h : ∀ q, q < n → (P q ↔ Q q)) : ukSet P n = ukSet Q n := by
  refine ukX (fun q _ => ?_)
  rw [ukSetB n hn, ukSetB n hn]
  exact ⟨fun k => ⟨k.1, (h q k.1).mp k.2⟩, fun k => ⟨k.1, (h q k.1).mpr k.2⟩⟩
/-- a set among the twelve -/
def ukL (x : Int32) : Prop := ∀ q, ukB x q → q < 12
theorem ukLS {P : Nat → Prop} {n : Nat} (hn : n ≤ 12) : ukL (ukSet P n) := fun q h => by
  have k := ((ukSetB n (by omega)).mp h).1
  omega
theorem ukL0 : ukL 0 := fun _ h => absurd h uk0
theorem ukLO {x y : Int32} (h : ukL x) (k : ukL y) : ukL (x ||| y) := fun q r => (ukO.mp r).elim (h q) (k q)
theorem ukLA {x y : Int32} (h : ukL x) : ukL (x &&& y) := fun q r => h q (ukA.mp r).1
theorem ukL1 {k : Nat} (hk : k < 12) : ukL (1 <<< (nI k &&& 31)) := fun q r => by
  have e := (uk1 (by omega)).mp r
  omega
theorem ukLn {x : Int32} (h : ukL x) : ∃ n : Nat, n < 4096 ∧ x = nI n := by
  refine ⟨x.toBitVec.toNat, ?_, ?_⟩
  · refine Nat.lt_pow_two_of_testBit (n := 12) _ (fun i hi => ?_)
    rw [BitVec.testBit_toNat]
    by_cases c : x.toBitVec.getLsbD i = true
    · exact absurd (h i c) (by omega)
    · exact Bool.eq_false_iff.mpr c
  · exact Int32.toBitVec_inj.mp (BitVec.eq_of_toNat_eq (pk_tn x.toBitVec.isLt).symm)
theorem ukNb {n q : Nat} (h : n < 2 ^ 32) : ukB (nI n) q ↔ n.testBit q = true := by
  unfold ukB
  rw [← BitVec.testBit_toNat, pk_tn h]
/-! the least bit -/
def ukMk (n : Nat) : Nat := (n ^^^ (n - 1)) / 2
def ukMc (n : Nat) : Bool := decide (((nI n) ^^^ (-1)) &&& (nI (n - 1)) = nI (ukMk n)) && decide (ukMk n < 4096)
set_option maxRecDepth 100000 in
theorem ukMc0 : ∀ a : Nat, a < 64 → ∀ b : Nat, b < 64 → (64 * a + b = 0 ∨ ukMc (64 * a + b) = true) := by decide +kernel
theorem ukMkE {n : Nat} (h : n < 4096) (h1 : 1 ≤ n) : ((nI n) ^^^ (-1)) &&& (nI (n - 1)) = nI (ukMk n) ∧ ukMk n < 4096 := by
  have q := ukMc0 (n / 64) (by omega) (n % 64) (by omega)
  rw [show 64 * (n / 64) + n % 64 = n by omega] at q
  rcases q with q | q
  · omega
  · unfold ukMc at q
    rw [Bool.and_eq_true, decide_eq_true_eq, decide_eq_true_eq] at q
    exact q
def ukT3 (i m : Nat) : Nat := if 4 < i then m + 2 + i / 4 / 2 else m + i / 2
def ukT2 (i m : Nat) : Nat := if 16 < i then ukT3 (i / 16) (m + 4) else ukT3 i m
def ukTz (n : Nat) : Nat := if 0 < ukMk n then (if 256 < ukMk n then ukT2 (ukMk n / 256) 9 else ukT2 (ukMk n) 1) else 0
def ukTc (n : Nat) : Bool := decide (ukTz n < 12) && (n.testBit (ukTz n) && (List.range 12).all (fun q => (n &&& (n - 1)).testBit q == (n.testBit q && !(q == ukTz n))))
set_option maxRecDepth 100000 in
theorem ukTc0 : ∀ a : Nat, a < 64 → ∀ b : Nat, b < 64 → (64 * a + b = 0 ∨ ukTc (64 * a + b) = true) := by decide +kernel
theorem ukAndN : ∀ n : Nat, n < 4096 → nI n &&& nI (n - 1) = nI (n &&& (n - 1)) := by
  intro n h
  refine Int32.toBitVec_inj.mp (BitVec.eq_of_toNat_eq ?_)
  have h2 : n &&& (n - 1) ≤ n := Nat.and_le_left
  rw [Int32.toBitVec_and, BitVec.toNat_and, pk_tn (by omega), pk_tn (by omega), pk_tn (by omega)]
theorem ukTzF {n : Nat} (h : n < 4096) (h1 : 1 ≤ n) : ukTz n < 12 ∧ ukB (nI n) (ukTz n) ∧ ∀ q, ukB (nI n &&& nI (n - 1)) q ↔ ukB (nI n) q ∧ q ≠ ukTz n := by
  have q := ukTc0 (n / 64) (by omega) (n % 64) (by omega)
  rw [show 64 * (n / 64) + n % 64 = n by omega] at q
  rcases q with q | q
  · omega
  · unfold ukTc at q
    rw [Bool.and_eq_true, Bool.and_eq_true, decide_eq_true_eq, List.all_eq_true] at q
    obtain ⟨q1, q2, q3⟩ := q
    refine ⟨q1, (ukNb (by omega)).mpr q2, fun r => ?_⟩
    by_cases c : r < 12
    · have q4 := q3 r (List.mem_range.mpr c)
      have h2 : n &&& (n - 1) ≤ n := Nat.and_le_left
      rw [ukAndN n h, ukNb (by omega), ukNb (by omega), beq_iff_eq.mp q4]
      rw [Bool.and_eq_true, Bool.not_eq_true', beq_eq_false_iff_ne]
    · have z : ¬ ukB (nI n) r := fun k => by
        rw [ukNb (by omega), Nat.testBit_lt_two_pow (Nat.lt_of_lt_of_le h (show 2 ^ 12 ≤ 2 ^ r from Nat.pow_le_pow_right (by decide) (by omega)))] at k
        exact absurd k (by decide)
      exact ⟨fun k => absurd (ukA.mp k).1 z, fun k => absurd k.1 z⟩
/-! what rows of joined posts lead to -/
def ukCl (S : Nat → Prop) (R : Nat → Nat → Prop) (q : Nat) : Prop := ∀ X : Nat → Prop, (∀ p, S p → X p) → (∀ p r, X p → R p r → X r) → X q
theorem ukCl0 {S : Nat → Prop} {R : Nat → Nat → Prop} {q : Nat} (h : S q) : ukCl S R q := fun X h1 _ => h1 q h
theorem ukClR {S : Nat → Prop} {R : Nat → Nat → Prop} {p q : Nat} (h : ukCl S R p) (k : R p q) : ukCl S R q := fun X h1 h2 => h2 p q (h X h1 h2) k
theorem ukClS {S S' : Nat → Prop} {R : Nat → Nat → Prop} (h : ∀ p, S p ↔ S' p) : ukCl S R = ukCl S' R := by
  rw [show S = S' from funext fun p => propext (h p)]
theorem ukClE {S M : Nat → Prop} {R R' : Nat → Nat → Prop} (hS : ∀ p, S p → M p) (h : ∀ p q, M p → (R p q ↔ R' p q)) (hM : ∀ p q, M p → R p q → M q) (q : Nat) : ukCl S R q ↔ ukCl S R' q := by
  constructor
  · intro k X h1 h2
    exact (k (fun p => X p ∧ M p) (fun p hp => ⟨h1 p hp, hS p hp⟩) (fun p r hx hr => ⟨h2 p r hx.1 ((h p r hx.2).mp hr), hM p r hx.2 hr⟩)).1
  · intro k X h1 h2
    exact (k (fun p => X p ∧ M p) (fun p hp => ⟨h1 p hp, hS p hp⟩) (fun p r hx hr => ⟨h2 p r hx.1 ((h p r hx.2).mpr hr), hM p r hx.2 ((h p r hx.2).mpr hr)⟩)).1
def ukR (n : Nat) (near : Nat → Int32) (M : Int32) (p q : Nat) : Prop := p < n ∧ ukB (near p) q ∧ ukB M q
/-- how many below n -/
noncomputable def ukK (P : Nat → Prop) : Nat → Nat
  | 0 => 0
  | k + 1 => uIte (P k) (ukK P k + 1) (ukK P k)
theorem ukKY {P : Nat → Prop} {k : Nat} (h : P k) : ukK P (k + 1) = ukK P k + 1 := uItP h
theorem ukKN {P : Nat → Prop} {k : Nat} (h : ¬ P k) : ukK P (k + 1) = ukK P k := uItN h
theorem ukKle {P : Nat → Prop} : ∀ n, ukK P n ≤ n
  | 0 => Nat.le_refl _
  | n + 1 => by
    have ih := ukKle (P := P) n
    by_cases c : P n
    · rw [ukKY c]; omega
    · rw [ukKN c]; omega
theorem ukKm {P Q : Nat → Prop} (h : ∀ p, P p → Q p) : ∀ n, ukK P n ≤ ukK Q n
  | 0 => Nat.le_refl _
  | n + 1 => by
    have ih := ukKm h n
    by_cases c : P n
    · rw [ukKY c, ukKY (h n c)]; omega
    · rw [ukKN c]
      by_cases d : Q n
      · rw [ukKY d]; omega
      · rw [ukKN d]; exact ih
theorem ukKs {P Q : Nat → Prop} {p : Nat} (h : ∀ q, P q → Q q) (h1 : ¬ P p) (h2 : Q p) : ∀ n, p < n → ukK P n + 1 ≤ ukK Q n
  | 0, hp => absurd hp (Nat.not_lt_zero _)
  | n + 1, hp => by
    by_cases e : p = n
    · subst e
      have ih := ukKm h p
      rw [ukKN h1, ukKY h2]; omega
    · have ih := ukKs h h1 h2 n (by omega)
      by_cases c : P n
      · rw [ukKY c, ukKY (h n c)]; omega
      · rw [ukKN c]
        by_cases d : Q n
        · rw [ukKY d]; omega
        · rw [ukKN d]; exact ih
theorem ukKf {P : Nat → Prop} : ∀ n, n ≤ ukK P n → ∀ p, p < n → P p
  | 0, _ => fun p hp => absurd hp (Nat.not_lt_zero _)
  | n + 1, hn => by
    intro p hp
    by_cases c : P n
    · rw [ukKY c] at hn
      by_cases e : p = n
      · rw [e]; exact c
      · exact ukKf n (by omega) p (by omega)
    · rw [ukKN c] at hn
      have := ukKle (P := P) n
      omega
/-- the class's walk: reached r, fresh f, t turns -/
def ukI (S : Int32) (near : Nat → Int32) (M r f : Int32) (t : Nat) : Prop :=
  ukL r ∧ (∀ q, ukB f q → ukB r q) ∧ (∀ q, ukB S q → ukB r q) ∧ (∀ q, ukB r q → ukCl (ukB S) (ukR 12 near M) q) ∧ (∀ p q, ukB r p → ¬ ukB f p → ukR 12 near M p q → ukB r q) ∧ t ≤ ukK (fun p => ukB r p ∧ ¬ ukB f p) 12
theorem ukI0 {S M : Int32} {near : Nat → Int32} (h : ukL S) : ukI S near M S S 0 :=
  ⟨h, fun _ k => k, fun _ k => k, fun _ k => ukCl0 k, fun p q k1 k2 _ => absurd k1 k2, Nat.zero_le _⟩
theorem ukIL {S M r f : Int32} {near : Nat → Int32} {t : Nat} (h : ukI S near M r f t) : ukL f := fun q k => h.1 q (h.2.1 q k)
theorem ukIS {S M r f : Int32} {near : Nat → Int32} {t n : Nat} (h : ukI S near M r f t) (hM : ukL M) (hn : n < 4096) (h1 : 1 ≤ n) (ef : f = nI n) : ukI S near M (r ||| (near (ukTz n) &&& M &&& (r ^^^ (-1)))) ((nI n &&& nI (n - 1)) ||| (near (ukTz n) &&& M &&& (r ^^^ (-1)))) (t + 1) := by
  obtain ⟨i1, i2, i3, i4, i5, i6⟩ := h
  obtain ⟨z1, z2, z3⟩ := ukTzF hn h1
  rw [← ef] at z2
  have hm : ∀ q, ukB (near (ukTz n) &&& M &&& (r ^^^ (-1))) q ↔ ((ukB (near (ukTz n)) q ∧ ukB M q) ∧ ¬ ukB r q) := by
    intro q
    rw [ukA, ukA]
    constructor
    · rintro ⟨a, b⟩
      exact ⟨a, (ukC (ukLt b)).mp b⟩
    · rintro ⟨a, b⟩
      exact ⟨a, (ukC (ukLt a.1)).mpr b⟩
  have hr : ∀ q, ukB (r ||| (near (ukTz n) &&& M &&& (r ^^^ (-1)))) q ↔ (ukB r q ∨ ((ukB (near (ukTz n)) q ∧ ukB M q) ∧ ¬ ukB r q)) := fun q => by rw [ukO, hm]
  have hf : ∀ q, ukB ((nI n &&& nI (n - 1)) ||| (near (ukTz n) &&& M &&& (r ^^^ (-1)))) q ↔ ((ukB f q ∧ q ≠ ukTz n) ∨ ((ukB (near (ukTz n)) q ∧ ukB M q) ∧ ¬ ukB r q)) := fun q => by rw [ukO, hm, z3, ← ef]
  refine ⟨?_, ?_, ?_, ?_, ?_, ?_⟩
  · intro q k
    rcases (hr q).mp k with k | k
    · exact i1 q k
    · exact hM q k.1.2
  · intro q k
    rcases (hf q).mp k with k | k
    · exact (hr q).mpr (Or.inl (i2 q k.1))
    · exact (hr q).mpr (Or.inr k)
  · intro q k
    exact (hr q).mpr (Or.inl (i3 q k))
  · intro q k
    rcases (hr q).mp k with k | k
    · exact i4 q k
    · exact ukClR (i4 (ukTz n) (i2 _ z2)) ⟨z1, k.1.1, k.1.2⟩
  · intro p q k1 k2 k3
    have k2' : ¬ ((ukB f p ∧ p ≠ ukTz n) ∨ ((ukB (near (ukTz n)) p ∧ ukB M p) ∧ ¬ ukB r p)) := fun c => k2 ((hf p).mpr c)
    rcases (hr p).mp k1 with c | c
    · by_cases d : ukB f p
      · have e : p = ukTz n := Classical.byContradiction (fun e => k2' (Or.inl ⟨d, e⟩))
        rw [e] at k3
        by_cases g : ukB r q
        · exact (hr q).mpr (Or.inl g)
        · exact (hr q).mpr (Or.inr ⟨⟨k3.2.1, k3.2.2⟩, g⟩)
      · exact (hr q).mpr (Or.inl (i5 p q c d k3))
    · exact absurd (Or.inr c) k2'
  · refine Nat.le_trans (Nat.succ_le_succ i6) (ukKs (p := ukTz n) ?_ (fun k => k.2 z2) ?_ 12 z1)
    · rintro q ⟨k1, k2⟩
      refine ⟨(hr q).mpr (Or.inl k1), fun k => ?_⟩
      rcases (hf q).mp k with c | c
      · exact k2 c.1
      · exact c.2 k1
    · refine ⟨(hr _).mpr (Or.inl (i2 _ z2)), fun k => ?_⟩
      rcases (hf _).mp k with c | c
      · exact c.2 rfl
      · exact c.2 (i2 _ z2)
theorem ukIE {S M r f : Int32} {near : Nat → Int32} {t : Nat} (h : ukI S near M r f t) (hf : f = 0 ∨ 12 ≤ t) : r = ukSet (ukCl (ukB S) (ukR 12 near M)) 12 := by
  obtain ⟨i1, i2, i3, i4, i5, i6⟩ := h
  have z : ∀ q, ¬ ukB f q := by
    rcases hf with e | e
    · intro q k; rw [e] at k; exact uk0 k
    · intro q k
      have k2 := i2 q k
      exact (ukKf 12 (Nat.le_trans e i6) q (i1 q k2)).2 k
  refine ukX (fun q _ => ?_)
  rw [ukSetB 12 (by omega)]
  constructor
  · intro k; exact ⟨i1 q k, i4 q k⟩
  · rintro ⟨_, k⟩
    exact k (ukB r) i3 (fun p s hp hs => i5 p s hp (z p) hs)
/-- the model's walk: was w, seen r; those below j looked at -/
def ukQ (S : Nat → Prop) (R : Nat → Nat → Prop) (w r : Int32) (j : Nat) : Prop :=
  (∀ q, S q → ukB r q) ∧ (∀ q, ukB r q → ukCl S R q) ∧ (∀ q, ukB w q → ukB r q) ∧ (∀ p q, p < j → ukB w p → R p q → ukB r q)
theorem ukQ0 {R : Nat → Nat → Prop} {a j : Nat} (ha : a < 32) : ukQ (fun p => p = a) R 0 (1 <<< (nI a &&& 31)) j :=
  ⟨fun q h => (uk1 ha).mpr h, fun q h => ukCl0 ((uk1 ha).mp h), fun q h => absurd h uk0, fun p q _ h _ => absurd h uk0⟩
theorem ukQB {S : Nat → Prop} {R : Nat → Nat → Prop} {w r : Int32} {j : Nat} (h : ukQ S R w r j) : ukQ S R r r 0 :=
  ⟨h.1, h.2.1, fun _ k => k, fun p q k _ _ => absurd k (Nat.not_lt_zero _)⟩
theorem ukQY {S : Nat → Prop} {near : Nat → Int32} {M w r : Int32} {n j : Nat} (h : ukQ S (ukR n near M) w r j) (hj : j < n) (c : ukB r j) : ukQ S (ukR n near M) w (r ||| (near j &&& M)) (j + 1) := by
  obtain ⟨h1, h2, h3, h4⟩ := h
  refine ⟨fun q k => ukO.mpr (Or.inl (h1 q k)), fun q k => ?_, fun q k => ukO.mpr (Or.inl (h3 q k)), fun p q k1 k2 k3 => ?_⟩
  · rcases ukO.mp k with k | k
    · exact h2 q k
    · have k := ukA.mp k
      exact ukClR (h2 j c) ⟨hj, k.1, k.2⟩
  · by_cases e : p = j
    · subst e
      exact ukO.mpr (Or.inr (ukA.mpr ⟨k3.2.1, k3.2.2⟩))
    · exact ukO.mpr (Or.inl (h4 p q (by omega) k2 k3))
theorem ukQN {S : Nat → Prop} {R : Nat → Nat → Prop} {w r : Int32} {j : Nat} (h : ukQ S R w r j) (c : ¬ ukB r j) : ukQ S R w r (j + 1) := by
  obtain ⟨h1, h2, h3, h4⟩ := h
  refine ⟨h1, h2, h3, fun p q k1 k2 k3 => ?_⟩
  by_cases e : p = j
  · subst e; exact absurd (h3 p k2) c
  · exact h4 p q (by omega) k2 k3
theorem ukQn {S : Nat → Prop} {R : Nat → Nat → Prop} {w r : Int32} {j i : Nat} (h : ukQ S R w r j) (hi : i ≤ j) : ukQ S R w r i :=
  ⟨h.1, h.2.1, h.2.2.1, fun p q k1 k2 k3 => h.2.2.2 p q (by omega) k2 k3⟩
theorem ukQE {S : Nat → Prop} {near : Nat → Int32} {M w r : Int32} {n : Nat} (h : ukQ S (ukR n near M) w r n) (hw : w = r) (hM : ukL M) (hS : ∀ p, S p → p < 12) : r = ukSet (ukCl S (ukR n near M)) 12 := by
  obtain ⟨h1, h2, h3, h4⟩ := h
  subst hw
  refine ukX (fun q _ => ?_)
  rw [ukSetB 12 (by omega)]
  constructor
  · intro k
    refine ⟨?_, h2 q k⟩
    exact h2 q k (fun p => p < 12) hS (fun p s _ hs => hM s hs.2.2)
  · rintro ⟨_, k⟩
    exact k (ukB w) h1 (fun p s hp hs => h4 p s hs.1 hp hs)
/-! groups -/
noncomputable def ukW (n : Nat) (near : Nat → Int32) (M : Int32) (p : Nat) : Int32 := ukSet (ukCl (fun q => q = p) (ukR n near M)) 12
noncomputable def ukG (R : Nat → Int32) (M : Int32) : Nat → Int32 × Nat
  | 0 => (M, 0)
  | j + 1 => uIte (ukB (ukG R M j).1 j) ((ukG R M j).1 &&& ((R j) ^^^ (-1)), (ukG R M j).2 + 1) (ukG R M j)
theorem ukGY {R : Nat → Int32} {M : Int32} {j : Nat} (h : ukB (ukG R M j).1 j) : ukG R M (j + 1) = ((ukG R M j).1 &&& ((R j) ^^^ (-1)), (ukG R M j).2 + 1) := uItP h
theorem ukGN {R : Nat → Int32} {M : Int32} {j : Nat} (h : ¬ ukB (ukG R M j).1 j) : ukG R M (j + 1) = ukG R M j := uItN h
theorem ukGsub {R : Nat → Int32} {M : Int32} {q : Nat} : ∀ j, ukB (ukG R M j).1 q → ukB M q
  | 0 => fun h => h
  | j + 1 => by
    intro h
    by_cases c : ukB (ukG R M j).1 j
    · rw [ukGY c] at h
      exact ukGsub j (ukA.mp h).1
    · rw [ukGN c] at h
      exact ukGsub j h
theorem ukGle {R : Nat → Int32} {M : Int32} : ∀ j, (ukG R M j).2 ≤ j
  | 0 => Nat.le_refl _
  | j + 1 => by
    have ih := ukGle (R := R) (M := M) j
    by_cases c : ukB (ukG R M j).1 j
    · rw [ukGY c]; exact Nat.succ_le_succ ih
    · rw [ukGN c]; omega
theorem ukGX {R R' : Nat → Int32} {M : Int32} (h : ∀ p, ukB M p → R p = R' p) : ∀ j, ukG R M j = ukG R' M j
  | 0 => rfl
  | j + 1 => by
    have ih := ukGX h j
    by_cases c : ukB (ukG R M j).1 j
    · have c' : ukB (ukG R' M j).1 j := by rw [← ih]; exact c
      rw [ukGY c, ukGY c', ih, h j (ukGsub j c)]
    · have c' : ¬ ukB (ukG R' M j).1 j := by rw [← ih]; exact c
      rw [ukGN c, ukGN c', ih]
theorem ukGn {R : Nat → Int32} {M : Int32} {n : Nat} (h : ∀ q, ukB M q → q < n) : ∀ k, ukG R M (n + k) = ukG R M n
  | 0 => rfl
  | k + 1 => by
    have c : ¬ ukB (ukG R M (n + k)).1 (n + k) := fun c => absurd (h _ (ukGsub (n + k) c)) (by omega)
    rw [show n + (k + 1) = (n + k) + 1 from rfl, ukGN c]
    exact ukGn h k
noncomputable def ukGr (n : Nat) (near : Nat → Int32) (M : Int32) : Nat := (ukG (ukW n near M) M n).2
theorem ukWc {near : Nat → Int32} {M : Int32} {p : Nat} (hp : p < 32) : ukSet (ukCl (ukB (1 <<< (nI p &&& 31))) (ukR 12 near M)) 12 = ukW 12 near M p := by
  unfold ukW
  rw [ukClS (fun q => uk1 hp)]
/-- cuts -/
noncomputable def ukCu (n : Nat) (near : Nat → Int32) (F : Int32) (p : Nat) : Prop := ukB F p ∧ ukGr n near F < ukGr n near (F &&& ((1 <<< (nI p &&& 31)) ^^^ (-1)))
/-- two tables of neighbours, alike among those of F -/
def ukE (n : Nat) (near near' : Nat → Int32) (F : Int32) : Prop := ∀ p q, ukB F p → ukB F q → (ukB (near p) q ↔ ukB (near' p) q)
theorem ukGrE {n : Nat} {near near' : Nat → Int32} {F M : Int32} (hn : n ≤ 12) (hF : ∀ q, ukB F q → q < n) (h : ukE n near near' F) (hM : ∀ q, ukB M q → ukB F q) : ukGr 12 near M = ukGr n near' M := by
  have e1 : ∀ p, ukB M p → ukW 12 near M p = ukW n near' M p := by
    intro p hp
    unfold ukW
    refine ukSetX (by omega) (fun q _ => ?_)
    refine ukClE (M := ukB M) (fun s hs => by rw [hs]; exact hp) (fun s t hs => ?_) (fun s t _ ht => ht.2.2) q
    constructor
    · rintro ⟨_, k2, k3⟩
      exact ⟨hF s (hM s hs), (h s t (hM s hs) (hM t k3)).mp k2, k3⟩
    · rintro ⟨k1, k2, k3⟩
      exact ⟨by omega, (h s t (hM s hs) (hM t k3)).mpr k2, k3⟩
  unfold ukGr
  rw [ukGX e1 12]
  have e2 := ukGn (R := ukW n near' M) (M := M) (n := n) (fun q k => hF q (hM q k)) (12 - n)
  rw [show n + (12 - n) = 12 by omega] at e2
  rw [e2]
theorem ukCuE {n : Nat} {near near' : Nat → Int32} {F : Int32} (hn : n ≤ 12) (hF : ∀ q, ukB F q → q < n) (h : ukE n near near' F) : ukSet (ukCu 12 near F) 12 = ukSet (ukCu n near' F) n := by
  have e : ∀ p, ukCu 12 near F p ↔ ukCu n near' F p := by
    intro p
    unfold ukCu
    rw [ukGrE hn hF h (fun q k => k), ukGrE hn hF h (fun q k => (ukA.mp k).1)]
  refine ukX (fun q _ => ?_)
  rw [ukSetB 12 (by omega), ukSetB n (by omega), e]
  constructor
  · rintro ⟨_, k⟩; exact ⟨hF q k.1, k⟩
  · rintro ⟨k1, k⟩; exact ⟨by omega, k⟩
/-! ways over the land: the greatest f with f s = 0 that no step outruns -/
def uwA (x y x' y' : Nat) : Prop := (y = y' ∧ (x' = x + 1 ∨ x = x' + 1)) ∨ (x = x' ∧ (y' = y + 1 ∨ y = y' + 1))
def uwF (W H : Nat) (w : Nat → Nat → Nat → Nat → Nat) (sx sy : Nat) (f : Nat → Nat → Nat) : Prop := f sx sy = 0 ∧ ∀ x y x' y', x < W → y < H → x' < W → y' < H → uwA x y x' y' → f x' y' ≤ f x y + w x y x' y'
def uwD (W H : Nat) (w : Nat → Nat → Nat → Nat → Nat) (sx sy : Nat) (d : Nat → Nat → Nat) : Prop := uwF W H w sx sy d ∧ ∀ f, uwF W H w sx sy f → ∀ x y, x < W → y < H → f x y ≤ d x y
theorem uwU {W H sx sy : Nat} {w : Nat → Nat → Nat → Nat → Nat} {d d' : Nat → Nat → Nat} (h : uwD W H w sx sy d) (h' : uwD W H w sx sy d') : ∀ x y, x < W → y < H → d x y = d' x y := fun x y hx hy => Nat.le_antisymm (h'.2 d h.1 x y hx hy) (h.2 d' h'.1 x y hx hy)
theorem uwFc {W H sx sy : Nat} {w w' : Nat → Nat → Nat → Nat → Nat} {f : Nat → Nat → Nat} (e : ∀ x y x' y', x < W → y < H → x' < W → y' < H → w x y x' y' = w' x y x' y') (h : uwF W H w sx sy f) : uwF W H w' sx sy f := ⟨h.1, fun x y x' y' h1 h2 h3 h4 k => by rw [← e x y x' y' h1 h2 h3 h4]; exact h.2 x y x' y' h1 h2 h3 h4 k⟩
theorem uwDc {W H sx sy : Nat} {w w' : Nat → Nat → Nat → Nat → Nat} {d : Nat → Nat → Nat} (e : ∀ x y x' y', x < W → y < H → x' < W → y' < H → w x y x' y' = w' x y x' y') (h : uwD W H w sx sy d) : uwD W H w' sx sy d := ⟨uwFc e h.1, fun f k => h.2 f (uwFc (fun x y x' y' h1 h2 h3 h4 => (e x y x' y' h1 h2 h3 h4).symm) k)⟩
/-- a set with s that no step leaves is all -/
theorem uwR {W H sx sy : Nat} {X : Nat → Nat → Prop} (hsx : sx < W) (hsy : sy < H) (h0 : X sx sy) (h : ∀ x y x' y', x < W → y < H → x' < W → y' < H → uwA x y x' y' → X x y → X x' y') : ∀ x y, x < W → y < H → X x y := by
  have up : ∀ k, sx + k < W → X (sx + k) sy := by
    intro k
    induction k with
    | zero => intro _; exact h0
    | succ k ih => intro hk; exact h (sx + k) sy (sx + (k + 1)) sy (by omega) hsy hk hsy (Or.inl ⟨rfl, Or.inl rfl⟩) (ih (by omega))
  have dn : ∀ k, k ≤ sx → X (sx - k) sy := by
    intro k
    induction k with
    | zero => intro _; exact h0
    | succ k ih => intro hk; exact h (sx - k) sy (sx - (k + 1)) sy (by omega) hsy (by omega) hsy (Or.inl ⟨rfl, Or.inr (by omega)⟩) (ih (by omega))
  have row : ∀ x, x < W → X x sy := by
    intro x hx
    by_cases c : sx ≤ x
    · have q := up (x - sx) (by omega)
      rw [show sx + (x - sx) = x by omega] at q
      exact q
    · have q := dn (sx - x) (by omega)
      rw [show sx - (sx - x) = x by omega] at q
      exact q
  have up2 : ∀ x, x < W → ∀ k, sy + k < H → X x (sy + k) := by
    intro x hx k
    induction k with
    | zero => intro _; exact row x hx
    | succ k ih => intro hk; exact h x (sy + k) x (sy + (k + 1)) hx (by omega) hx hk (Or.inr ⟨rfl, Or.inl rfl⟩) (ih (by omega))
  have dn2 : ∀ x, x < W → ∀ k, k ≤ sy → X x (sy - k) := by
    intro x hx k
    induction k with
    | zero => intro _; exact row x hx
    | succ k ih => intro hk; exact h x (sy - k) x (sy - (k + 1)) hx (by omega) hx (by omega) (Or.inr ⟨rfl, Or.inr (by omega)⟩) (ih (by omega))
  intro x y hx hy
  by_cases c : sy ≤ y
  · have q := up2 x hx (y - sy) (by omega)
    rw [show sy + (y - sy) = y by omega] at q
    exact q
  · have q := dn2 x hx (sy - y) (by omega)
    rw [show sy - (sy - y) = y by omega] at q
    exact q
/-- no f goes beyond B a step -/
theorem uwB {W H sx sy B : Nat} {w : Nat → Nat → Nat → Nat → Nat} {f : Nat → Nat → Nat} (hsx : sx < W) (hsy : sy < H) (hB : ∀ x y x' y', x < W → y < H → x' < W → y' < H → w x y x' y' ≤ B) (h : uwF W H w sx sy f) : ∀ x y, x < W → y < H → f x y ≤ (W + H) * B := by
  have st : ∀ x y x' y', x < W → y < H → x' < W → y' < H → uwA x y x' y' → ∀ m, f x y ≤ m * B → f x' y' ≤ (m + 1) * B := by
    intro x y x' y' h1 h2 h3 h4 k m hm
    have a := h.2 x y x' y' h1 h2 h3 h4 k
    have b := hB x y x' y' h1 h2 h3 h4
    rw [Nat.succ_mul]
    omega
  have f0 : f sx sy ≤ 0 * B := by rw [h.1]; exact Nat.zero_le _
  have up : ∀ k, sx + k < W → f (sx + k) sy ≤ k * B := by
    intro k
    induction k with
    | zero => intro _; exact f0
    | succ k ih => intro hk; exact st (sx + k) sy (sx + (k + 1)) sy (by omega) hsy hk hsy (Or.inl ⟨rfl, Or.inl rfl⟩) k (ih (by omega))
  have dn : ∀ k, k ≤ sx → f (sx - k) sy ≤ k * B := by
    intro k
    induction k with
    | zero => intro _; exact f0
    | succ k ih => intro hk; exact st (sx - k) sy (sx - (k + 1)) sy (by omega) hsy (by omega) hsy (Or.inl ⟨rfl, Or.inr (by omega)⟩) k (ih (by omega))
  have row : ∀ x, x < W → f x sy ≤ W * B := by
    intro x hx
    by_cases c : sx ≤ x
    · have q := up (x - sx) (by omega)
      rw [show sx + (x - sx) = x by omega] at q
      exact Nat.le_trans q (Nat.mul_le_mul_right _ (by omega))
    · have q := dn (sx - x) (by omega)
      rw [show sx - (sx - x) = x by omega] at q
      exact Nat.le_trans q (Nat.mul_le_mul_right _ (by omega))
  have up2 : ∀ x, x < W → ∀ k, sy + k < H → f x (sy + k) ≤ (W + k) * B := by
    intro x hx k
    induction k with
    | zero => intro _; exact row x hx
    | succ k ih => intro hk; exact st x (sy + k) x (sy + (k + 1)) hx (by omega) hx hk (Or.inr ⟨rfl, Or.inl rfl⟩) (W + k) (ih (by omega))
  have dn2 : ∀ x, x < W → ∀ k, k ≤ sy → f x (sy - k) ≤ (W + k) * B := by
    intro x hx k
    induction k with
    | zero => intro _; exact row x hx
    | succ k ih => intro hk; exact st x (sy - k) x (sy - (k + 1)) hx (by omega) hx (by omega) (Or.inr ⟨rfl, Or.inr (by omega)⟩) (W + k) (ih (by omega))
  intro x y hx hy
  by_cases c : sy ≤ y
  · have q := up2 x hx (y - sy) (by omega)
    rw [show sy + (y - sy) = y by omega] at q
    exact Nat.le_trans q (Nat.mul_le_mul_right _ (by omega))
  · have q := dn2 x hx (sy - y) (by omega)
    rw [show sy - (sy - y) = y by omega] at q
    exact Nat.le_trans q (Nat.mul_le_mul_right _ (by omega))
/-- there is a greatest one -/
theorem uwM {P : Nat → Prop} {B : Nat} (h0 : ∃ k, P k) (hB : ∀ k, P k → k ≤ B) : ∃ k, P k ∧ ∀ j, P j → j ≤ k := by
  obtain ⟨m, hm, hl⟩ := pk_least (fun m => ∃ k, P k ∧ m = B - k) (by
    obtain ⟨k, hk⟩ := h0
    exact ⟨B - k, k, hk, rfl⟩)
  obtain ⟨k, hk, e⟩ := hm
  refine ⟨k, hk, fun j hj => ?_⟩
  have b1 := hB j hj
  have b2 := hB k hk
  by_cases c : j ≤ k
  · exact c
  · exact absurd ⟨j, hj, rfl⟩ (hl (B - j) (by omega))
theorem uwX {W H sx sy B : Nat} {w : Nat → Nat → Nat → Nat → Nat} (hsx : sx < W) (hsy : sy < H) (hB : ∀ x y x' y', x < W → y < H → x' < W → y' < H → w x y x' y' ≤ B) : ∃ d, uwD W H w sx sy d := by
  have z : uwF W H w sx sy (fun _ _ => 0) := ⟨rfl, fun _ _ _ _ _ _ _ _ _ => Nat.zero_le _⟩
  have ex : ∀ x y, ∃ k, (x < W → y < H → (∃ f, uwF W H w sx sy f ∧ f x y = k) ∧ ∀ f, uwF W H w sx sy f → f x y ≤ k) := by
    intro x y
    by_cases c : x < W ∧ y < H
    · obtain ⟨k, h1, h2⟩ := uwM (P := fun k => ∃ f, uwF W H w sx sy f ∧ f x y = k) (B := (W + H) * B) ⟨0, _, z, rfl⟩ (fun k hk => by
        obtain ⟨f, hf, e⟩ := hk
        rw [← e]
        exact uwB hsx hsy hB hf x y c.1 c.2)
      exact ⟨k, fun _ _ => ⟨h1, fun f hf => h2 _ ⟨f, hf, rfl⟩⟩⟩
    · exact ⟨0, fun a b => absurd ⟨a, b⟩ c⟩
  refine ⟨fun x y => Classical.choose (ex x y), ⟨?_, ?_⟩, ?_⟩
  · obtain ⟨⟨f, hf, e⟩, _⟩ := Classical.choose_spec (ex sx sy) hsx hsy
    show Classical.choose (ex sx sy) = 0
    rw [← e]
    exact hf.1
  · intro x y x' y' h1 h2 h3 h4 k
    obtain ⟨⟨f, hf, e⟩, _⟩ := Classical.choose_spec (ex x' y') h3 h4
    obtain ⟨_, q⟩ := Classical.choose_spec (ex x y) h1 h2
    show Classical.choose (ex x' y') ≤ Classical.choose (ex x y) + w x y x' y'
    rw [← e]
    exact Nat.le_trans (hf.2 x y x' y' h1 h2 h3 h4 k) (Nat.add_le_add_right (q f hf) _)
  · intro f hf x y hx hy
    exact (Classical.choose_spec (ex x y) hx hy).2 f hf
/-- from where the least way comes -/
theorem uwP {W H sx sy x y : Nat} {w : Nat → Nat → Nat → Nat → Nat} {d : Nat → Nat → Nat} (h : uwD W H w sx sy d) (hx : x < W) (hy : y < H) (ne : ¬ (x = sx ∧ y = sy)) : ∃ u v, u < W ∧ v < H ∧ uwA u v x y ∧ d x y = d u v + w u v x y := by
  refine Classical.byContradiction (fun c => ?_)
  have big : ∀ u v, u < W → v < H → uwA u v x y → d x y + 1 ≤ d u v + w u v x y := by
    intro u v hu hv k
    have a := h.1.2 u v x y hu hv hx hy k
    by_cases e : d x y = d u v + w u v x y
    · exact absurd ⟨u, v, hu, hv, k, e⟩ c
    · omega
  have F : uwF W H w sx sy (fun a b => if a = x ∧ b = y then d x y + 1 else d a b) := by
    refine ⟨?_, ?_⟩
    · show (if sx = x ∧ sy = y then d x y + 1 else d sx sy) = 0
      rw [if_neg (fun q => ne ⟨q.1.symm, q.2.symm⟩)]
      exact h.1.1
    · intro a b a' b' h1 h2 h3 h4 k
      show (if a' = x ∧ b' = y then d x y + 1 else d a' b') ≤ (if a = x ∧ b = y then d x y + 1 else d a b) + w a b a' b'
      by_cases e : a' = x ∧ b' = y
      · rw [if_pos e]
        have ne2 : ¬ (a = x ∧ b = y) := by
          rintro ⟨e1, e2⟩
          unfold uwA at k
          omega
        rw [if_neg ne2]
        obtain ⟨e1, e2⟩ := e
        subst e1 e2
        exact big a b h1 h2 k
      · rw [if_neg e]
        have q := h.1.2 a b a' b' h1 h2 h3 h4 k
        by_cases e2 : a = x ∧ b = y
        · rw [if_pos e2]
          obtain ⟨e3, e4⟩ := e2
          subst e3 e4
          omega
        · rw [if_neg e2]; exact q
  have q := h.2 _ F x y hx hy
  have q : (if x = x ∧ y = y then d x y + 1 else d x y) ≤ d x y := q
  rw [if_pos ⟨rfl, rfl⟩] at q
  omega
/-! the class's sweeps: r0 before, r now; Z: those looked at -/
def uwZ (W H : Nat) (w : Nat → Nat → Nat → Nat → Nat) (r0 r : Nat → Nat → Nat) (Z : Nat → Nat → Prop) (mv : Int32) : Prop :=
  (mv = 0 ∨ mv = 1) ∧ (∀ x y, x < W → y < H → r x y ≤ r0 x y) ∧ (∀ f : Nat → Nat → Nat, (∀ x y x' y', x < W → y < H → x' < W → y' < H → uwA x y x' y' → f x' y' ≤ f x y + w x y x' y') → (∀ x y, x < W → y < H → f x y ≤ r0 x y) → ∀ x y, x < W → y < H → f x y ≤ r x y) ∧ (∀ x y u v, x < W → y < H → u < W → v < H → Z x y → uwA u v x y → r x y ≤ r0 u v + w u v x y) ∧ (mv = 0 → ∀ x y, x < W → y < H → r x y = r0 x y)
theorem uwZ0 {W H : Nat} {w : Nat → Nat → Nat → Nat → Nat} {r : Nat → Nat → Nat} {Z : Nat → Nat → Prop} (hZ : ∀ x y, x < W → y < H → ¬ Z x y) : uwZ W H w r r Z 0 :=
  ⟨Or.inl rfl, fun _ _ _ _ => Nat.le_refl _, fun f _ h => h, fun x y u v h1 h2 _ _ k _ => absurd k (hZ x y h1 h2), fun _ _ _ _ _ => rfl⟩
/-- one cell lowered: m there -/
def uwL (W H : Nat) (w : Nat → Nat → Nat → Nat → Nat) (r r' : Nat → Nat → Nat) (x y m : Nat) : Prop :=
  (∀ a b, a < W → b < H → ¬ (a = x ∧ b = y) → r' a b = r a b) ∧ r' x y = m ∧ m ≤ r x y ∧ (∀ u v, u < W → v < H → uwA u v x y → m ≤ r u v + w u v x y) ∧ (m = r x y ∨ ∃ u v, u < W ∧ v < H ∧ uwA u v x y ∧ m = r u v + w u v x y)
theorem uwZS {W H x y m : Nat} {w : Nat → Nat → Nat → Nat → Nat} {r0 r r' : Nat → Nat → Nat} {Z Z' : Nat → Nat → Prop} {mv c mv' : Int32} (h : uwZ W H w r0 r Z mv) (l : uwL W H w r r' x y m) (hx : x < W) (hy : y < H) (hZ : ∀ a b, a < W → b < H → Z' a b → Z a b ∨ (a = x ∧ b = y)) (hc : (c = 1 ∧ m < r x y) ∨ (c = 0 ∧ ¬ m < r x y)) (hm : mv' = mv ||| c) : uwZ W H w r0 r' Z' mv' := by
  obtain ⟨h0, h1, h2, h3, h4⟩ := h
  obtain ⟨l1, l2, l3, l4, l5⟩ := l
  have le : ∀ a b, a < W → b < H → r' a b ≤ r a b := by
    intro a b ha hb
    by_cases e : a = x ∧ b = y
    · rw [e.1, e.2, l2]; exact l3
    · rw [l1 a b ha hb e]; exact Nat.le_refl _
  have c01 : c = 0 ∨ c = 1 := hc.elim (fun k => Or.inr k.1) (fun k => Or.inl k.1)
  refine ⟨?_, fun a b ha hb => Nat.le_trans (le a b ha hb) (h1 a b ha hb), fun f hf hr a b ha hb => ?_, fun a b u v ha hb hu hv k q => ?_, fun q a b ha hb => ?_⟩
  · rw [hm]
    rcases h0 with e | e <;> rcases c01 with e' | e' <;> rw [e, e'] <;> decide
  · have g := h2 f hf hr
    by_cases e : a = x ∧ b = y
    · rw [e.1, e.2, l2]
      rcases l5 with k | ⟨u, v, hu, hv, k1, k2⟩
      · rw [k]; exact g x y hx hy
      · rw [k2]; exact Nat.le_trans (hf u v x y hu hv hx hy k1) (Nat.add_le_add_right (g u v hu hv) _)
    · rw [l1 a b ha hb e]; exact g a b ha hb
  · rcases hZ a b ha hb k with k | k
    · exact Nat.le_trans (le a b ha hb) (h3 a b u v ha hb hu hv k q)
    · obtain ⟨e1, e2⟩ := k
      subst e1 e2
      rw [l2]
      exact Nat.le_trans (l4 u v hu hv q) (Nat.add_le_add_right (h1 u v hu hv) _)
  · have e0 : mv = 0 ∧ c = 0 := by
      rw [hm] at q
      rcases h0 with e | e <;> rcases c01 with e' | e' <;> rw [e, e'] at q ⊢ <;> first | exact ⟨rfl, rfl⟩ | exact absurd q (by decide)
    have nm : ¬ m < r x y := by
      rcases hc with k | k
      · exact absurd (k.1.symm.trans e0.2) (by decide)
      · exact k.2
    by_cases e : a = x ∧ b = y
    · rw [e.1, e.2, l2, ← h4 e0.1 x y hx hy]; omega
    · rw [l1 a b ha hb e]; exact h4 e0.1 a b ha hb
/-- a whole sweep -/
def uwO (W H : Nat) (w : Nat → Nat → Nat → Nat → Nat) (r0 r : Nat → Nat → Nat) (mv : Int32) : Prop := uwZ W H w r0 r (fun _ _ => True) mv
/-- how many are not there yet, and how many sweeps were -/
def uwT (W H : Nat) (r d : Nat → Nat → Nat) (i : Nat) : Prop := i < W * H ∧ ¬ r (i % W) (i / W) = d (i % W) (i / W)
def uwC (W H : Nat) (w : Nat → Nat → Nat → Nat → Nat) (sx sy : Nat) (r : Nat → Nat → Nat) (t : Nat) : Prop := ∀ d, uwD W H w sx sy d → (ukK (uwT W H r d) (W * H) + t ≤ W * H ∨ ∀ x y, x < W → y < H → r x y = d x y)
def uwQ (W H : Nat) (w : Nat → Nat → Nat → Nat → Nat) (sx sy : Nat) (r : Nat → Nat → Nat) : Prop := r sx sy = 0 ∧ ∀ f, uwF W H w sx sy f → ∀ x y, x < W → y < H → f x y ≤ r x y
theorem uwC0 {W H sx sy : Nat} {w : Nat → Nat → Nat → Nat → Nat} {r : Nat → Nat → Nat} : uwC W H w sx sy r 0 := fun d _ => Or.inl (ukKle _)
theorem uwQS {W H sx sy : Nat} {w : Nat → Nat → Nat → Nat → Nat} {r0 r : Nat → Nat → Nat} {mv : Int32} (hsx : sx < W) (hsy : sy < H) (q : uwQ W H w sx sy r0) (s : uwO W H w r0 r mv) : uwQ W H w sx sy r := by
  obtain ⟨_, h1, h2, _, _⟩ := s
  refine ⟨?_, fun f hf x y hx hy => h2 f hf.2 (q.2 f hf) x y hx hy⟩
  have a := h1 sx sy hsx hsy
  rw [q.1] at a
  omega
theorem uwIx {W H x y : Nat} (hx : x < W) (hy : y < H) : y * W + x < W * H ∧ (y * W + x) % W = x ∧ (y * W + x) / W = y := by
  have hW : 0 < W := by omega
  refine ⟨?_, ?_, ?_⟩
  · have a : (y + 1) * W ≤ H * W := Nat.mul_le_mul_right _ hy
    rw [Nat.succ_mul] at a
    rw [Nat.mul_comm W H]
    omega
  · rw [Nat.add_comm, Nat.add_mul_mod_self_right, Nat.mod_eq_of_lt hx]
  · rw [Nat.add_comm, Nat.add_mul_div_right _ _ hW, Nat.div_eq_of_lt hx, Nat.zero_add]
theorem uwXi {W H i : Nat} (hW : 0 < W) (hi : i < W * H) : i % W < W ∧ i / W < H := ⟨Nat.mod_lt _ hW, Nat.div_lt_of_lt_mul hi⟩
theorem uwCS {W H sx sy t : Nat} {w : Nat → Nat → Nat → Nat → Nat} {r0 r : Nat → Nat → Nat} {mv : Int32} (hsx : sx < W) (hsy : sy < H) (hw : ∀ x y x' y', x < W → y < H → x' < W → y' < H → 1 ≤ w x y x' y') (q : uwQ W H w sx sy r0) (s : uwO W H w r0 r mv) (c : uwC W H w sx sy r0 t) : uwC W H w sx sy r (t + 1) := by
  intro d hd
  have q' := uwQS hsx hsy q s
  obtain ⟨_, h1, _, h3, _⟩ := s
  have dr0 := q.2 d hd.1
  have dr := q'.2 d hd.1
  have eqd : ∀ x y, x < W → y < H → r0 x y = d x y → r x y = d x y := fun x y hx hy e => by
    have a := h1 x y hx hy
    have b := dr x y hx hy
    omega
  rcases c d hd with c | c
  · by_cases e : ∀ x y, x < W → y < H → r x y = d x y
    · exact Or.inr e
    · left
      have ex : ∃ k, ∃ x y, x < W ∧ y < H ∧ ¬ r0 x y = d x y ∧ d x y = k := by
        refine Classical.byContradiction (fun n => e (fun x y hx hy => eqd x y hx hy (Classical.byContradiction (fun z => n ⟨d x y, x, y, hx, hy, z, rfl⟩))))
      obtain ⟨k, ⟨x, y, hx, hy, z, ek⟩, lst⟩ := pk_least _ ex
      have ne : ¬ (x = sx ∧ y = sy) := by
        rintro ⟨e1, e2⟩
        rw [e1, e2, q.1, hd.1.1] at z
        exact z rfl
      obtain ⟨u, v, hu, hv, k1, k2⟩ := uwP hd hx hy ne
      have wp := hw u v x y hu hv hx hy
      have eu : r0 u v = d u v := Classical.byContradiction (fun n => lst (d u v) (by omega) ⟨u, v, hu, hv, n, rfl⟩)
      have a := h3 x y u v hx hy hu hv trivial k1
      rw [eu, ← k2] at a
      have b := dr x y hx hy
      obtain ⟨i1, i2, i3⟩ := uwIx hx hy
      have g := ukKs (P := uwT W H r d) (Q := uwT W H r0 d) (p := y * W + x) (fun i hi => by
        obtain ⟨m1, m2⟩ := uwXi (show 0 < W by omega) hi.1
        exact ⟨hi.1, fun e0 => hi.2 (eqd _ _ m1 m2 e0)⟩) (by
        rintro ⟨_, n⟩
        rw [i2, i3] at n
        exact n (by omega)) (by
        refine ⟨i1, ?_⟩
        rw [i2, i3]
        exact z) (W * H) i1
      omega
  · exact Or.inr (fun x y hx hy => eqd x y hx hy (c x y hx hy))
theorem ukK0 {P : Nat → Prop} : ∀ n, ukK P n = 0 → ∀ i, i < n → ¬ P i
  | 0, _ => fun i hi => absurd hi (Nat.not_lt_zero _)
  | n + 1, h => by
    intro i hi
    by_cases c : P n
    · rw [ukKY c] at h; omega
    · rw [ukKN c] at h
      by_cases e : i = n
      · rw [e]; exact c
      · exact ukK0 n h i (by omega)
/-- behind the last sweep -/
theorem uwE1 {W H sx sy : Nat} {w : Nat → Nat → Nat → Nat → Nat} {r0 r d : Nat → Nat → Nat} {mv : Int32} (hd : uwD W H w sx sy d) (q : uwQ W H w sx sy r0) (s : uwO W H w r0 r mv) (m : mv = 0) : ∀ x y, x < W → y < H → r x y = d x y := by
  obtain ⟨_, _, _, h3, h4⟩ := s
  have e := h4 m
  have F : uwF W H w sx sy r0 := ⟨q.1, fun x y x' y' h1 h2 h3' h4' k => by
    have a := h3 x' y' x y h3' h4' h1 h2 trivial k
    rw [e x' y' h3' h4'] at a
    exact a⟩
  intro x y hx hy
  have a := hd.2 r0 F x y hx hy
  have b := q.2 d hd.1 x y hx hy
  rw [e x y hx hy]
  omega
theorem uwE2 {W H sx sy t : Nat} {w : Nat → Nat → Nat → Nat → Nat} {r d : Nat → Nat → Nat} (hd : uwD W H w sx sy d) (c : uwC W H w sx sy r t) (ht : W * H ≤ t) : ∀ x y, x < W → y < H → r x y = d x y := by
  rcases c d hd with c | c
  · intro x y hx hy
    obtain ⟨i1, i2, i3⟩ := uwIx hx hy
    have z := ukK0 (W * H) (show ukK (uwT W H r d) (W * H) = 0 by omega) _ i1
    refine Classical.byContradiction (fun n => z ⟨i1, ?_⟩)
    rw [i2, i3]; exact n
  · exact c
/-- the start: 0 there, far elsewhere -/
theorem uwQ0 {W H sx sy B M : Nat} {w : Nat → Nat → Nat → Nat → Nat} {r : Nat → Nat → Nat} (hsx : sx < W) (hsy : sy < H) (hB : ∀ x y x' y', x < W → y < H → x' < W → y' < H → w x y x' y' ≤ B) (hM : (W + H) * B ≤ M) (h0 : r sx sy = 0) (h1 : ∀ x y, x < W → y < H → ¬ (x = sx ∧ y = sy) → r x y = M) : uwQ W H w sx sy r := by
  refine ⟨h0, fun f hf x y hx hy => ?_⟩
  by_cases e : x = sx ∧ y = sy
  · rw [e.1, e.2, hf.1]; exact Nat.zero_le _
  · rw [h1 x y hx hy e]
    exact Nat.le_trans (uwB hsx hsy hB hf x y hx hy) hM
/-! the class's cells: y * 16 + x -/
def uwst (hg wg : Nat → Nat → Nat) (x y x' y' : Nat) : Nat := 10 + (if hg x y < hg x' y' then 2 * (hg x' y' - hg x y) else hg x y - hg x' y') + 5 * wg x' y'
def uwg (f : Nat → Int32) (x y : Nat) : Nat := uN (f (y * 16 + x))
def uwm (W : Nat) (f : Nat → Int32) (x y : Nat) : Nat := uN (f (W * y + x))
def uwHt (h : Nat → Int32) (W H : Nat) : Prop := ∀ x y, x < W → y < H → ∃ a : Nat, a ≤ 999 ∧ h (y * 16 + x) = nI a
def uwRw (f : Nat → Int32) : Prop := ∀ k, k < 256 → ∃ a : Nat, a ≤ 1073741823 ∧ f k = nI a
theorem uwRwU {f : Nat → Int32} {k m : Nat} (h : uwRw f) (hm : m ≤ 1073741823) : uwRw (upd f k (nI m)) := by
  intro j hj
  by_cases c : j = k
  · subst c; rw [pk_us]; exact ⟨m, hm, rfl⟩
  · rw [pk_un c]; exact h j hj
theorem uwRwF {f : Nat → Int32} (h : uFl 256 f 1073741823) : uwRw f := fun k hk => ⟨1073741823, Nat.le_refl _, h k hk⟩
theorem uwStB {hg wg : Nat → Nat → Nat} {W H : Nat} (hh : ∀ x y, x < W → y < H → hg x y ≤ 999) (hw : ∀ x y, x < W → y < H → wg x y ≤ 3) : ∀ x y x' y', x < W → y < H → x' < W → y' < H → 1 ≤ uwst hg wg x y x' y' ∧ uwst hg wg x y x' y' ≤ 2023 := by
  intro x y x' y' h1 h2 h3 h4
  have a := hh x y h1 h2
  have b := hh x' y' h3 h4
  have c := hw x' y' h3 h4
  unfold uwst
  split <;> omega
noncomputable def uwOn (h wd row : Nat → Int32) (W H : Nat) (x y : Int32) (to : Nat) : Nat := uIte (uInL x y W H) (uN (row (uN y * 16 + uN x)) + 10 + (if uN (h (uN y * 16 + uN x)) < uN (h to) then 2 * (uN (h to) - uN (h (uN y * 16 + uN x))) else uN (h (uN y * 16 + uN x)) - uN (h to)) + 5 * uN (wd to)) 1073741823
theorem uwOv1 {p q a k : Nat} (hp : p ≤ 999) (hq : q ≤ 999) (ha : a ≤ 1073741823) (hk : k ≤ 3) (c : ¬ nI p - nI q ≤ 0) : nI a + 10 + 2 * (nI p - nI q) + nI (5 * k) = nI (a + 10 + (if q < p then 2 * (p - q) else q - p) + 5 * k) := by
  have lt : q < p := by
    refine Classical.byContradiction (fun n => c ?_)
    rw [uSubLe (by omega) (by omega)]; omega
  rw [if_pos lt, show (2 : Int32) = nI 2 from rfl, show (10 : Int32) = nI 10 from rfl, pk_sub (by omega), pk_mul, nI_add, nI_add, nI_add]
theorem uwOv2 {p q a k : Nat} (hp : p ≤ 999) (hq : q ≤ 999) (ha : a ≤ 1073741823) (hk : k ≤ 3) (c : nI p - nI q ≤ 0) : nI a + 10 + -(nI p - nI q) + nI (5 * k) = nI (a + 10 + (if q < p then 2 * (p - q) else q - p) + 5 * k) := by
  have le : p ≤ q := by rw [uSubLe (by omega) (by omega)] at c; exact c
  have e : -(nI p - nI q) = nI (q - p) := by rw [Int32.neg_sub, pk_sub le]
  rw [if_neg (by omega), e, show (10 : Int32) = nI 10 from rfl, nI_add, nI_add, nI_add]
theorem uwOnB {h wd row : Nat → Int32} {W H : Nat} {x y : Int32} {to : Nat} (hW : W ≤ 16) (hH : H ≤ 16) (hh : uwHt h W H) (hr : uwRw row) (hw : uRg wd 0 3) (ht : ∃ a b, a < W ∧ b < H ∧ to = b * 16 + a) : uwOn h wd row W H x y to ≤ 1073743846 := by
  unfold uwOn
  by_cases c : uInL x y W H
  · rw [uItP c]
    unfold uInL at c
    have ex : uN x < W := by unfold uN; omega
    have ey : uN y < H := by unfold uN; omega
    obtain ⟨a, ha, ea⟩ := hr (uN y * 16 + uN x) (by omega)
    obtain ⟨p, hp, ep⟩ := hh (uN x) (uN y) ex ey
    obtain ⟨s, t, hs, ht, et⟩ := ht
    obtain ⟨q, hq, eq⟩ := hh s t hs ht
    obtain ⟨k, hk, ek⟩ := uRnat hw to (by decide)
    simp only [Int32.reduceToInt] at hk
    rw [uNe (by omega) ea, uNe (by omega) ep, uNe (by omega) ek, et, uNe (by omega) eq]
    split <;> omega
  · rw [uItN c]; omega
/-- one cell's new number -/
def uwLw (h wd row : Nat → Int32) (W H x y m : Nat) : Prop :=
  (m ≤ uN (row (y * 16 + x)) ∧ m ≤ uwOn h wd row W H (nI x - 1) (nI y) (y * 16 + x) ∧ m ≤ uwOn h wd row W H (nI (x + 1)) (nI y) (y * 16 + x) ∧ m ≤ uwOn h wd row W H (nI x) (nI y - 1) (y * 16 + x) ∧ m ≤ uwOn h wd row W H (nI x) (nI (y + 1)) (y * 16 + x)) ∧ (m = uN (row (y * 16 + x)) ∨ m = uwOn h wd row W H (nI x - 1) (nI y) (y * 16 + x) ∨ m = uwOn h wd row W H (nI (x + 1)) (nI y) (y * 16 + x) ∨ m = uwOn h wd row W H (nI x) (nI y - 1) (y * 16 + x) ∨ m = uwOn h wd row W H (nI x) (nI (y + 1)) (y * 16 + x))
theorem uwOnA {h wd row : Nat → Int32} {W H u v x y : Nat} {a b : Int32} (hW : W ≤ 16) (hH : H ≤ 16) (hu : u < W) (hv : v < H) (ea : a = nI u) (eb : b = nI v) : uwOn h wd row W H a b (y * 16 + x) = uwg row u v + uwst (uwg h) (uwg wd) u v x y := by
  have c : uInL a b W H := by
    unfold uInL
    rw [ea, eb, nI_toInt (by omega), nI_toInt (by omega)]
    omega
  unfold uwOn
  rw [uItP c, uNe (by omega) ea, uNe (by omega) eb]
  unfold uwst uwg
  omega
theorem uwOnN {h wd row : Nat → Int32} {W H : Nat} {a b : Int32} {to : Nat} (c : ¬ uInL a b W H) : uwOn h wd row W H a b to = 1073741823 := by
  unfold uwOn
  rw [uItN c]
theorem uwInl {W H : Nat} {a b : Int32} (c : uInL a b W H) : ∃ u v : Nat, u < W ∧ v < H ∧ a = nI u ∧ b = nI v := by
  obtain ⟨⟨c1, c2⟩, c3, c4⟩ := c
  have l1 := a.toInt_lt
  have l2 := b.toInt_lt
  refine ⟨a.toInt.toNat, b.toInt.toNat, by omega, by omega, ?_, ?_⟩
  · rw [fa_eq, nI_toInt (by omega)]; omega
  · rw [fa_eq, nI_toInt (by omega)]; omega
theorem uwLwL {h wd row : Nat → Int32} {W H x y m : Nat} (hW : W ≤ 16) (hH : H ≤ 16) (hx : x < W) (hy : y < H) (hr : uwRw row) (hm : m ≤ 1073741823) (l : uwLw h wd row W H x y m) : uwL W H (uwst (uwg h) (uwg wd)) (uwg row) (uwg (upd row (y * 16 + x) (nI m))) x y m := by
  obtain ⟨⟨l0, l1, l2, l3, l4⟩, l5⟩ := l
  obtain ⟨r, hr1, hr2⟩ := hr (y * 16 + x) (by omega)
  refine ⟨fun a b ha hb n => ?_, ?_, l0, fun u v hu hv k => ?_, ?_⟩
  · unfold uwg
    rw [pk_un (fun e => n ⟨by omega, by omega⟩)]
  · unfold uwg
    rw [pk_us]
    exact uNe (by omega) rfl
  · rcases k with ⟨k1, k2 | k2⟩ | ⟨k1, k2 | k2⟩
    · rw [uwOnA hW hH hu hv (show nI x - 1 = nI u by rw [k2]; exact nI_pred u) (by rw [k1])] at l1
      exact l1
    · rw [uwOnA hW hH hu hv (by rw [k2]) (by rw [k1])] at l2
      exact l2
    · rw [uwOnA hW hH hu hv (by rw [k1]) (show nI y - 1 = nI v by rw [k2]; exact nI_pred v)] at l3
      exact l3
    · rw [uwOnA hW hH hu hv (by rw [k1]) (by rw [k2])] at l4
      exact l4
  · have mk : ∀ a b, m = uwOn h wd row W H a b (y * 16 + x) → (∀ u v, u < W → v < H → a = nI u → b = nI v → uwA u v x y) → (m = uwg row x y ∨ ∃ u v, u < W ∧ v < H ∧ uwA u v x y ∧ m = uwg row u v + uwst (uwg h) (uwg wd) u v x y) := by
      intro a b e k
      by_cases c : uInL a b W H
      · obtain ⟨u, v, hu, hv, e1, e2⟩ := uwInl c
        exact Or.inr ⟨u, v, hu, hv, k u v hu hv e1 e2, by rw [e, uwOnA hW hH hu hv e1 e2]⟩
      · left
        have z := uwOnN (h := h) (wd := wd) (row := row) (to := y * 16 + x) c
        have g : uN (row (y * 16 + x)) = r := uNe (by omega) hr2
        unfold uwg
        rw [g] at l0 ⊢
        omega
    have n1 : ∀ p u : Nat, p < 16 → u < 16 → nI p = nI u → p = u := fun p u hp hu e => (nI_eq (by omega) (by omega)).mp e
    have n2 : ∀ p u : Nat, p < 16 → u < 16 → nI p - 1 = nI u → p = u + 1 := by
      intro p u hp hu e
      by_cases c : p = 0
      · subst c
        have e2 := congrArg Int32.toInt e
        rw [nI_toInt (by omega), show (nI 0 - 1 : Int32).toInt = -1 by decide] at e2
        omega
      · rw [uDn0 (show 1 ≤ p by omega)] at e
        have := n1 (p - 1) u (by omega) hu e
        omega
    rcases l5 with e | e | e | e | e
    · exact Or.inl e
    · exact mk _ _ e (fun u v hu hv e1 e2 => Or.inl ⟨n1 v y (by omega) (by omega) e2.symm, Or.inl (n2 x u (by omega) (by omega) e1)⟩)
    · exact mk _ _ e (fun u v hu hv e1 e2 => Or.inl ⟨n1 v y (by omega) (by omega) e2.symm, Or.inr ((nI_eq (by omega) (by omega)).mp e1).symm⟩)
    · exact mk _ _ e (fun u v hu hv e1 e2 => Or.inr ⟨n1 u x (by omega) (by omega) e1.symm, Or.inl (n2 y v (by omega) (by omega) e2)⟩)
    · exact mk _ _ e (fun u v hu hv e1 e2 => Or.inr ⟨n1 u x (by omega) (by omega) e1.symm, Or.inr ((nI_eq (by omega) (by omega)).mp e2).symm⟩)
/-- those of a sweep's first i -/
def uwZp (W c : Nat) (fl : Int32) (i x y : Nat) : Prop := (¬ fl = 0 ∧ y * W + x < i) ∨ (fl = 0 ∧ c ≤ y * W + x + i)
theorem uwZW {W H : Nat} {w : Nat → Nat → Nat → Nat → Nat} {r0 r : Nat → Nat → Nat} {Z Z' : Nat → Nat → Prop} {mv : Int32} (h : uwZ W H w r0 r Z mv) (hz : ∀ x y, x < W → y < H → Z' x y → Z x y) : uwZ W H w r0 r Z' mv := ⟨h.1, h.2.1, h.2.2.1, fun x y u v h1 h2 h3 h4 k q => h.2.2.2.1 x y u v h1 h2 h3 h4 (hz x y h1 h2 k) q, h.2.2.2.2⟩
/-- a row of ways from (sx, sy) -/
def uwWy (h wd : Nat → Int32) (W H sx sy : Nat) (row : Nat → Int32) : Prop := ∃ d, uwD W H (uwst (uwg h) (uwg wd)) sx sy d ∧ ∀ x y, x < W → y < H → row (y * 16 + x) = nI (d x y)
theorem uwHtN {h : Nat → Int32} {W H : Nat} (hh : uwHt h W H) : ∀ x y, x < W → y < H → uwg h x y ≤ 999 := fun x y hx hy => by
  obtain ⟨a, ha, e⟩ := hh x y hx hy
  unfold uwg
  rw [uNe (by omega) e]; exact ha
theorem uwWdN {wd : Nat → Int32} (hw : uRg wd 0 3) {W H : Nat} : ∀ x y, x < W → y < H → uwg wd x y ≤ 3 := fun x y _ _ => by
  obtain ⟨k, hk, ek⟩ := uRnat hw (y * 16 + x) (by decide)
  simp only [Int32.reduceToInt] at hk
  unfold uwg
  rw [uNe (by omega) ek]; omega
theorem uwWyI {h wd row : Nat → Int32} {W H sx sy : Nat} (hW : W ≤ 16) (hH : H ≤ 16) (hr : uwRw row) (e : ∀ d, uwD W H (uwst (uwg h) (uwg wd)) sx sy d → ∀ x y, x < W → y < H → uwg row x y = d x y) (ex : ∃ d, uwD W H (uwst (uwg h) (uwg wd)) sx sy d) : uwWy h wd W H sx sy row := by
  obtain ⟨d, hd⟩ := ex
  refine ⟨d, hd, fun x y hx hy => ?_⟩
  have q := e d hd x y hx hy
  obtain ⟨a, ha, ea⟩ := hr (y * 16 + x) (by omega)
  unfold uwg at q
  rw [uNe (by omega) ea] at q
  rw [ea, q]
/-! the reference's rounds: k the costs (M: none yet), D those done, t how many -/
def uwJ (W H : Nat) (w : Nat → Nat → Nat → Nat → Nat) (sx sy : Nat) (k : Nat → Nat → Nat) (D : Nat → Nat → Prop) (M t : Nat) : Prop :=
  k sx sy = 0 ∧ (∀ x y, x < W → y < H → k x y = M ∨ k x y ≤ 2023 * t) ∧ (∀ f, uwF W H w sx sy f → ∀ x y, x < W → y < H → f x y ≤ k x y) ∧ (∀ u v x y, u < W → v < H → x < W → y < H → D u v → uwA u v x y → k x y ≤ k u v + w u v x y) ∧ (∀ u v x y, u < W → v < H → x < W → y < H → D u v → ¬ D x y → k u v ≤ k x y) ∧ (∀ u v, u < W → v < H → D u v → k u v ≤ 2023 * t) ∧ (((∀ u v, u < W → v < H → ¬ D u v) ∧ ∀ x y, x < W → y < H → ¬ (x = sx ∧ y = sy) → k x y = M) ∨ D sx sy)
theorem uwJ0 {W H sx sy M : Nat} {w : Nat → Nat → Nat → Nat → Nat} {k : Nat → Nat → Nat} {D : Nat → Nat → Prop} (hsx : sx < W) (hsy : sy < H) (hB : ∀ x y x' y', x < W → y < H → x' < W → y' < H → w x y x' y' ≤ 2023) (hM : (W + H) * 2023 ≤ M) (h0 : k sx sy = 0) (h1 : ∀ x y, x < W → y < H → ¬ (x = sx ∧ y = sy) → k x y = M) (hD : ∀ x y, x < W → y < H → ¬ D x y) : uwJ W H w sx sy k D M 0 := by
  refine ⟨h0, fun x y hx hy => ?_, (uwQ0 hsx hsy hB hM h0 h1).2, fun u v x y hu hv _ _ d => absurd d (hD u v hu hv), fun u v x y hu hv _ _ d => absurd d (hD u v hu hv), fun u v hu hv d => absurd d (hD u v hu hv), Or.inl ⟨hD, h1⟩⟩
  by_cases e : x = sx ∧ y = sy
  · right; rw [e.1, e.2, h0]; exact Nat.zero_le _
  · exact Or.inl (h1 x y hx hy e)
/-- the least that is not done has a cost -/
theorem uwJm {W H sx sy M t a b : Nat} {w : Nat → Nat → Nat → Nat → Nat} {k : Nat → Nat → Nat} {D : Nat → Nat → Prop} (h : uwJ W H w sx sy k D M t) (hsx : sx < W) (hsy : sy < H) (hB : ∀ x y x' y', x < W → y < H → x' < W → y' < H → w x y x' y' ≤ 2023) (hM : 2023 * (t + 1) < M) (ha : a < W) (hb : b < H) (nd : ¬ D a b) (lst : ∀ x y, x < W → y < H → ¬ D x y → k a b ≤ k x y) : k a b ≤ 2023 * t := by
  obtain ⟨j1, j2, _, j4, _, j6, j7⟩ := h
  rcases j2 a b ha hb with e | e
  · rcases j7 with ⟨j7, _⟩ | j7
    · have q := lst sx sy hsx hsy (j7 sx sy hsx hsy)
      omega
    · have ex : ∃ u v x y, u < W ∧ v < H ∧ x < W ∧ y < H ∧ uwA u v x y ∧ D u v ∧ ¬ D x y := by
        refine Classical.byContradiction (fun n => nd (uwR (X := D) hsx hsy j7 (fun x y x' y' h1 h2 h3 h4 k d => Classical.byContradiction (fun d' => n ⟨x, y, x', y', h1, h2, h3, h4, k, d, d'⟩)) a b ha hb))
      obtain ⟨u, v, x, y, hu, hv, hx, hy, k1, d1, d2⟩ := ex
      have q1 := j4 u v x y hu hv hx hy d1 k1
      have q2 := j6 u v hu hv d1
      have q3 := hB u v x y hu hv hx hy
      have q4 := lst x y hx hy d2
      omega
  · exact e
/-- those of Nb have been reached from (a, b) -/
def uwY (W H : Nat) (w : Nat → Nat → Nat → Nat → Nat) (k k' : Nat → Nat → Nat) (a b : Nat) (Nb : Nat → Nat → Prop) : Prop := ∀ x y, x < W → y < H → (Nb x y → k' x y = (if k a b + w a b x y < k x y then k a b + w a b x y else k x y)) ∧ (¬ Nb x y → k' x y = k x y)
theorem uwY0 {W H a b : Nat} {w : Nat → Nat → Nat → Nat → Nat} {k : Nat → Nat → Nat} {Nb : Nat → Nat → Prop} (hN : ∀ x y, x < W → y < H → ¬ Nb x y) : uwY W H w k k a b Nb := fun x y hx hy => ⟨fun q => absurd q (hN x y hx hy), fun _ => rfl⟩
theorem uwJS {W H sx sy M t a b : Nat} {w : Nat → Nat → Nat → Nat → Nat} {k k' : Nat → Nat → Nat} {D D' : Nat → Nat → Prop} (h : uwJ W H w sx sy k D M t) (hw : ∀ x y x' y', x < W → y < H → x' < W → y' < H → 1 ≤ w x y x' y' ∧ w x y x' y' ≤ 2023) (hsx : sx < W) (hsy : sy < H) (ha : a < W) (hb : b < H) (nd : ¬ D a b) (fin : k a b ≤ 2023 * t) (hM : 2023 * (t + 1) < M) (lst : ∀ x y, x < W → y < H → ¬ D x y → k a b ≤ k x y) (y : uwY W H w k k' a b (fun x y => uwA a b x y)) (hD : ∀ x y, x < W → y < H → (D' x y ↔ D x y ∨ (x = a ∧ y = b))) : uwJ W H w sx sy k' D' M (t + 1) := by
  obtain ⟨j1, j2, j3, j4, j5, j6, j7⟩ := h
  have le : ∀ x y, x < W → y < H → k' x y ≤ k x y := by
    intro p q hp hq
    by_cases c : uwA a b p q
    · rw [(y p q hp hq).1 c]; split <;> omega
    · rw [(y p q hp hq).2 c]; exact Nat.le_refl _
  have same : ∀ x y, x < W → y < H → D x y ∨ (x = a ∧ y = b) → k' x y = k x y := by
    intro p q hp hq d
    by_cases c : uwA a b p q
    · rw [(y p q hp hq).1 c]
      have nlt : ¬ k a b + w a b p q < k p q := by
        rcases d with d | ⟨e1, e2⟩
        · have z := j5 p q a b hp hq ha hb d nd
          omega
        · subst e1 e2; omega
      rw [if_neg nlt]
    · exact (y p q hp hq).2 c
  have low : ∀ x y, x < W → y < H → k' x y = k x y ∨ (uwA a b x y ∧ k' x y = k a b + w a b x y) := by
    intro p q hp hq
    by_cases c : uwA a b p q
    · have z := (y p q hp hq).1 c
      by_cases l : k a b + w a b p q < k p q
      · rw [if_pos l] at z; exact Or.inr ⟨c, z⟩
      · rw [if_neg l] at z; exact Or.inl z
    · exact Or.inl ((y p q hp hq).2 c)
  refine ⟨?_, fun p q hp hq => ?_, fun f hf p q hp hq => ?_, fun u v p q hu hv hp hq d c => ?_, fun u v p q hu hv hp hq d n => ?_, fun u v hu hv d => ?_, Or.inr ?_⟩
  · have z := le sx sy hsx hsy
    omega
  · rcases low p q hp hq with z | ⟨_, z⟩
    · rw [z]
      rcases j2 p q hp hq with z2 | z2
      · exact Or.inl z2
      · right; omega
    · right
      have z2 := (hw a b p q ha hb hp hq).2
      rw [z]; omega
  · rcases low p q hp hq with z | ⟨c, z⟩
    · rw [z]; exact j3 f hf p q hp hq
    · rw [z]
      exact Nat.le_trans (hf.2 a b p q ha hb hp hq c) (Nat.add_le_add_right (j3 f hf a b ha hb) _)
  · have d := (hD u v hu hv).mp d
    rw [same u v hu hv d]
    rcases d with d | ⟨e1, e2⟩
    · exact Nat.le_trans (le p q hp hq) (j4 u v p q hu hv hp hq d c)
    · subst e1 e2
      rw [(y p q hp hq).1 c]; split <;> omega
  · have d := (hD u v hu hv).mp d
    have n : ¬ D p q := fun z => n ((hD p q hp hq).mpr (Or.inl z))
    rw [same u v hu hv d]
    have uab : k u v ≤ k a b := by
      rcases d with d | ⟨e1, e2⟩
      · exact j5 u v a b hu hv ha hb d nd
      · subst e1 e2; exact Nat.le_refl _
    have abp := lst p q hp hq n
    rcases low p q hp hq with z | ⟨_, z⟩ <;> rw [z] <;> omega
  · have d := (hD u v hu hv).mp d
    rw [same u v hu hv d]
    rcases d with d | ⟨e1, e2⟩
    · have z := j6 u v hu hv d; omega
    · subst e1 e2; omega
  · rcases j7 with ⟨j7, j8⟩ | j7
    · refine (hD sx sy hsx hsy).mpr (Or.inr (Classical.byContradiction (fun e => ?_)))
      have z := lst sx sy hsx hsy (j7 sx sy hsx hsy)
      have z2 := j8 a b ha hb (fun q => e ⟨q.1.symm, q.2.symm⟩)
      omega
    · exact (hD sx sy hsx hsy).mpr (Or.inl j7)
/-- all done: the costs are the ways -/
theorem uwJE {W H sx sy M t : Nat} {w : Nat → Nat → Nat → Nat → Nat} {k d : Nat → Nat → Nat} {D : Nat → Nat → Prop} (h : uwJ W H w sx sy k D M t) (hd : uwD W H w sx sy d) (all : ∀ x y, x < W → y < H → D x y) : ∀ x y, x < W → y < H → k x y = d x y := by
  obtain ⟨j1, _, j3, j4, _, _, _⟩ := h
  have F : uwF W H w sx sy k := ⟨j1, fun x y x' y' h1 h2 h3 h4 c => j4 x y x' y' h1 h2 h3 h4 (all x y h1 h2) c⟩
  intro x y hx hy
  exact Nat.le_antisymm (hd.2 k F x y hx hy) (j3 d hd.1 x y hx hy)
/-- one neighbour more -/
theorem uwYS {W H a b p q : Nat} {w : Nat → Nat → Nat → Nat → Nat} {k k1 k2 : Nat → Nat → Nat} {Nb Nb' : Nat → Nat → Prop} (h : uwY W H w k k1 a b Nb) (hs : ¬ Nb a b) (hn : ¬ Nb p q) (hpq : ¬ (p = a ∧ q = b)) (ha : a < W) (hb : b < H) (hp : p < W) (hq : q < H) (e : ∀ x y, x < W → y < H → ¬ (x = p ∧ y = q) → k2 x y = k1 x y) (e2 : k2 p q = (if k1 a b + w a b p q < k1 p q then k1 a b + w a b p q else k1 p q)) (hN : ∀ x y, x < W → y < H → (Nb' x y ↔ Nb x y ∨ (x = p ∧ y = q))) : uwY W H w k k2 a b Nb' := by
  have eab := (h a b ha hb).2 hs
  have epq := (h p q hp hq).2 hn
  intro x y hx hy
  by_cases c : x = p ∧ y = q
  · obtain ⟨c1, c2⟩ := c
    subst c1 c2
    rw [eab, epq] at e2
    exact ⟨fun _ => e2, fun n => absurd ((hN x y hx hy).mpr (Or.inr ⟨rfl, rfl⟩)) n⟩
  · rw [e x y hx hy c]
    exact ⟨fun n => (h x y hx hy).1 (((hN x y hx hy).mp n).resolve_right c), fun n => (h x y hx hy).2 (fun z => n ((hN x y hx hy).mpr (Or.inl z)))⟩
theorem uwYK {W H a b : Nat} {w : Nat → Nat → Nat → Nat → Nat} {k k1 : Nat → Nat → Nat} {Nb Nb' : Nat → Nat → Prop} (h : uwY W H w k k1 a b Nb) (hN : ∀ x y, x < W → y < H → (Nb' x y ↔ Nb x y)) : uwY W H w k k1 a b Nb' := fun x y hx hy => ⟨fun n => (h x y hx hy).1 ((hN x y hx hy).mp n), fun n => (h x y hx hy).2 (fun z => n ((hN x y hx hy).mpr z))⟩
/-! the reference's cells: W * y + x -/
def uwHm (h : Nat → Int32) (N : Nat) : Prop := ∀ i, i < N → ∃ a : Nat, a ≤ 999 ∧ h i = nI a
def uwCn (f : Nat → Int32) (N : Nat) : Prop := ∀ i, i < N → ∃ a : Nat, a ≤ 2147483647 ∧ f i = nI a
def uwFi (f : Nat → Int32) (i : Nat) : Prop := ∃ a : Nat, a ≤ 600000 ∧ f i = nI a
def uwSc (h wd : Nat → Int32) (a b : Nat) : Nat := 10 + (if uN (h a) < uN (h b) then 2 * (uN (h b) - uN (h a)) else uN (h a) - uN (h b)) + 5 * uN (wd b)
theorem uwScE1 {p q k : Nat} (hp : p ≤ 999) (hq : q ≤ 999) (hk : k ≤ 3) (c : ¬ nI p - nI q ≤ 0) : 10 + 2 * (nI p - nI q) + nI (5 * k) = nI (10 + (if q < p then 2 * (p - q) else q - p) + 5 * k) := by
  have lt : q < p := by
    refine Classical.byContradiction (fun n => c ?_)
    rw [uSubLe (by omega) (by omega)]; omega
  rw [if_pos lt, show (2 : Int32) = nI 2 from rfl, show (10 : Int32) = nI 10 from rfl, pk_sub (by omega), pk_mul, nI_add, nI_add]
theorem uwScE2 {p q k : Nat} (hp : p ≤ 999) (hq : q ≤ 999) (hk : k ≤ 3) (c : nI p - nI q ≤ 0) : 10 + -(nI p - nI q) + nI (5 * k) = nI (10 + (if q < p then 2 * (p - q) else q - p) + 5 * k) := by
  have le : p ≤ q := by rw [uSubLe (by omega) (by omega)] at c; exact c
  have e : -(nI p - nI q) = nI (q - p) := by rw [Int32.neg_sub, pk_sub le]
  rw [if_neg (by omega), e, show (10 : Int32) = nI 10 from rfl, nI_add, nI_add]
theorem uwScB {h wd : Nat → Int32} {N a b : Nat} (hh : uwHm h N) (hw : uRg wd 0 3) (ha : a < N) (hb : b < N) : uwSc h wd a b ≤ 2023 := by
  obtain ⟨p, hp, ep⟩ := hh a ha
  obtain ⟨q, hq, eq⟩ := hh b hb
  obtain ⟨k, hk, ek⟩ := uRnat hw b (by decide)
  simp only [Int32.reduceToInt] at hk
  unfold uwSc
  rw [uNe (by omega) ep, uNe (by omega) eq, uNe (by omega) ek]
  split <;> omega
/-- reaches: from a to b -/
def uwRe (c c' : Nat → Int32) (a b s : Nat) : Prop := (uN (c a) + s < uN (c b) ∧ c' = upd c b (nI (uN (c a) + s))) ∨ (¬ uN (c a) + s < uN (c b) ∧ c' = c)
theorem uwReN {c c' : Nat → Int32} {a b s N : Nat} (h : uwRe c c' a b s) (hc : uwCn c N) (hf : uwFi c a) (hs : s ≤ 2023) : uwCn c' N := by
  obtain ⟨x, hx, ex⟩ := hf
  rcases h with ⟨_, e⟩ | ⟨_, e⟩
  · rw [e]
    intro i hi
    by_cases d : i = b
    · subst d; rw [pk_us, uNe (show x < 2 ^ 31 by omega) ex]; exact ⟨x + s, by omega, rfl⟩
    · rw [pk_un d]; exact hc i hi
  · rw [e]; exact hc
theorem uwReF {c c' : Nat → Int32} {a b s : Nat} (h : uwRe c c' a b s) (hf : uwFi c a) (ne : a ≠ b) : uwFi c' a := by
  rcases h with ⟨_, e⟩ | ⟨_, e⟩
  · rw [e]; unfold uwFi; rw [pk_un ne]; exact hf
  · rw [e]; exact hf
/-- the least of those not done -/
def uwCh (j : Nat) (c : Int32) (f k : Nat → Int32) (N : Nat) : Prop := (c = -1 ∧ ∀ i, i < j → f i = 1) ∨ (∃ a : Nat, a < N ∧ f a = 0 ∧ c = nI a ∧ ∀ i, i < j → f i = 0 → ¬ k i < k a)
theorem uwChZ {f k : Nat → Int32} {N : Nat} : uwCh 0 (-1) f k N := Or.inl ⟨rfl, fun _ h => absurd h (Nat.not_lt_zero _)⟩
theorem uwChD {j N : Nat} {c : Int32} {f k : Nat → Int32} (h : uwCh j c f k N) (b : f j = 0 ∨ f j = 1) (e : ¬ f j = 0) : uwCh (j + 1) c f k N := by
  rcases h with ⟨h1, h2⟩ | ⟨a, h1, h2, h3, h4⟩
  · refine Or.inl ⟨h1, fun i hi => ?_⟩
    by_cases d : i = j
    · subst d; exact b.resolve_left e
    · exact h2 i (by omega)
  · refine Or.inr ⟨a, h1, h2, h3, fun i hi z => ?_⟩
    by_cases d : i = j
    · subst d; exact absurd z e
    · exact h4 i (by omega) z
theorem uwChF {j N : Nat} {c : Int32} {f k : Nat → Int32} (h : uwCh j c f k N) (hc : c = -1) (hN : N ≤ 256) (hj : j < N) (e : f j = 0) : uwCh (j + 1) (nI j) f k N := by
  rcases h with ⟨_, h2⟩ | ⟨a, h1, _, h3, _⟩
  · refine Or.inr ⟨j, hj, e, rfl, fun i hi z => ?_⟩
    by_cases d : i = j
    · subst d; rw [fa_lt]; omega
    · exact absurd ((h2 i (by omega)).symm.trans z) (by decide)
  · rw [hc] at h3
    exact absurd h3.symm (uNn (by omega) (by decide))
theorem uwChG {j N : Nat} {c : Int32} {f k : Nat → Int32} (h : uwCh j c f k N) (e : ¬ c = -1) : ∃ a : Nat, a < N ∧ f a = 0 ∧ c = nI a ∧ ∀ i, i < j → f i = 0 → ¬ k i < k a := by
  rcases h with ⟨h1, _⟩ | h
  · exact absurd h1 e
  · exact h
theorem uwChL {j N a : Nat} {f k : Nat → Int32} (h4 : ∀ i, i < j → f i = 0 → ¬ k i < k a) (hj : j < N) (e : f j = 0) (l : k j < k a) : uwCh (j + 1) (nI j) f k N := by
  refine Or.inr ⟨j, hj, e, rfl, fun i hi z => ?_⟩
  by_cases d : i = j
  · subst d; rw [fa_lt]; omega
  · have q := h4 i (by omega) z
    rw [fa_lt] at q l ⊢
    omega
theorem uwChK {j N a : Nat} {c : Int32} {f k : Nat → Int32} (h1 : a < N) (h2 : f a = 0) (h3 : c = nI a) (h4 : ∀ i, i < j → f i = 0 → ¬ k i < k a) (l : ¬ k j < k a) : uwCh (j + 1) c f k N := by
  refine Or.inr ⟨a, h1, h2, h3, fun i hi z => ?_⟩
  by_cases d : i = j
  · subst d; exact l
  · exact h4 i (by omega) z
theorem uwChE {j N r : Nat} {c : Int32} {f k : Nat → Int32} (h : uwCh j c f k N) (hj : N ≤ j) (hs : uSm N f = r) (hr : r < N) : ∃ a : Nat, a < N ∧ f a = 0 ∧ c = nI a ∧ ∀ i, i < N → f i = 0 → ¬ k i < k a := by
  rcases h with ⟨_, h2⟩ | ⟨a, h1, h2, h3, h4⟩
  · have q := uSmO (f := f) (fun i hi => h2 i (by omega)) (n := N)
    omega
  · exact ⟨a, h1, h2, h3, fun i hi z => h4 i (by omega) z⟩
theorem uSmA {f : Nat → Int32} (b : ∀ k, f k = 0 ∨ f k = 1) : ∀ n, uSm n f = n → ∀ i, i < n → f i = 1
  | 0, _ => fun i hi => absurd hi (Nat.not_lt_zero _)
  | n + 1, h => by
    intro i hi
    have l := uSmL (n := n) b
    have e : uSm (n + 1) f = uSm n f + (f n).toNatClampNeg := rfl
    rcases b n with z | z
    · rw [e, z] at h
      have : (0 : Int32).toNatClampNeg = 0 := by decide
      omega
    · by_cases d : i = n
      · rw [d]; exact z
      · rw [e, z] at h
        have : (1 : Int32).toNatClampNeg = 1 := by decide
        exact uSmA b n (by omega) i (by omega)
/-- the four beside (a, b), the first n of them -/
def uwNb (n a b x y : Nat) : Prop := (1 ≤ n ∧ x + 1 = a ∧ y = b) ∨ (2 ≤ n ∧ x = a + 1 ∧ y = b) ∨ (3 ≤ n ∧ x = a ∧ y + 1 = b) ∨ (4 ≤ n ∧ x = a ∧ y = b + 1)
def uwYa (W H : Nat) (h wd k k' : Nat → Int32) (a n : Nat) : Prop := uwY W H (uwst (uwm W h) (uwm W wd)) (uwm W k) (uwm W k') (a % W) (a / W) (uwNb n (a % W) (a / W))
theorem uwYa0 {W H a : Nat} {h wd k : Nat → Int32} : uwYa W H h wd k k a 0 := uwY0 (fun x y _ _ n => by unfold uwNb at n; omega)
theorem uwMd {W a : Nat} : W * (a / W) + a % W = a := Nat.div_add_mod a W
theorem uwIm {W x y : Nat} (hx : x < W) : (W * y + x) % W = x ∧ (W * y + x) / W = y := by
  have hW : 0 < W := by omega
  refine ⟨?_, ?_⟩
  · rw [Nat.mul_add_mod, Nat.mod_eq_of_lt hx]
  · rw [Nat.mul_add_div hW, Nat.div_eq_of_lt hx, Nat.add_zero]
theorem uwIj {W H x y x' y' : Nat} (hx : x < W) (hx' : x' < W) (e : W * y + x = W * y' + x') : x = x' ∧ y = y' := by
  have a := uwIm (y := y) hx
  have b := uwIm (y := y') hx'
  rw [e] at a
  exact ⟨a.1.symm.trans b.1, a.2.symm.trans b.2⟩
theorem uwYR {W H a i n p q : Nat} {h wd k k1 k2 : Nat → Int32} (hW : 0 < W) (y : uwYa W H h wd k k1 a n) (r : uwRe k1 k2 a i (uwSc h wd a i)) (ha : a < W * H) (hp : p < W) (hq : q < H) (ei : i = W * q + p) (ne : ¬ (p = a % W ∧ q = a / W)) (hn : ¬ uwNb n (a % W) (a / W) p q) (hN : ∀ x y, x < W → y < H → (uwNb (n + 1) (a % W) (a / W) x y ↔ uwNb n (a % W) (a / W) x y ∨ (x = p ∧ y = q))) (hc : uwCn k1 (W * H)) (hf : uwFi k1 a) (hs : uwSc h wd a i ≤ 2023) : uwYa W H h wd k k2 a (n + 1) := by
  obtain ⟨m1, m2⟩ := uwXi hW ha
  have ea : uwm W k1 (a % W) (a / W) = uN (k1 a) := by unfold uwm; rw [uwMd]
  have ep : uwm W k1 p q = uN (k1 i) := by unfold uwm; rw [ei]
  have ew : uwst (uwm W h) (uwm W wd) (a % W) (a / W) p q = uwSc h wd a i := by unfold uwst uwSc uwm; rw [uwMd, ei]
  refine uwYS (k1 := uwm W k1) y (fun z => by unfold uwNb at z; omega) hn ne m1 m2 hp hq (fun x y hx hy d => ?_) ?_ hN
  · rcases r with ⟨_, e⟩ | ⟨_, e⟩
    · unfold uwm
      rw [e, pk_un (fun z => d (uwIj (H := H) hx hp (z.trans ei)))]
    · rw [e]
  · rw [ea, ep, ew]
    rcases r with ⟨c, e⟩ | ⟨c, e⟩
    · rw [if_pos c]
      unfold uwm
      rw [← ei, e, pk_us]
      obtain ⟨z, hz, ez⟩ := hf
      rw [uNe (show z < 2 ^ 31 by omega) ez]
      exact uNe (by omega) rfl
    · rw [if_neg c, e]
      exact ep
theorem uwYN {W H a n : Nat} {h wd k k1 : Nat → Int32} (y : uwYa W H h wd k k1 a n) (hN : ∀ x y, x < W → y < H → (uwNb (n + 1) (a % W) (a / W) x y ↔ uwNb n (a % W) (a / W) x y)) : uwYa W H h wd k k1 a (n + 1) := uwYK y hN
theorem uwY1 {W H a : Nat} {h wd k k1 k2 : Nat → Int32} (y : uwYa W H h wd k k1 a 0) (ha : a < W * H) (hW : 0 < W) (c : ¬ a % W ≤ 0) (r : uwRe k1 k2 a (a - 1) (uwSc h wd a (a - 1))) (hc : uwCn k1 (W * H)) (hf : uwFi k1 a) (hs : uwSc h wd a (a - 1) ≤ 2023) : uwYa W H h wd k k2 a 1 := by
  obtain ⟨m1, m2⟩ := uwXi hW ha
  have e := uwMd (W := W) (a := a)
  exact uwYR (p := a % W - 1) (q := a / W) hW y r ha (by omega) m2 (by omega) (by omega) (fun z => by unfold uwNb at z; omega) (fun x y _ _ => by unfold uwNb; omega) hc hf hs
theorem uwY1n {W H a : Nat} {h wd k k1 : Nat → Int32} (y : uwYa W H h wd k k1 a 0) (c : a % W ≤ 0) : uwYa W H h wd k k1 a 1 := uwYN y (fun x y _ _ => by unfold uwNb; omega)
theorem uwY2 {W H a : Nat} {h wd k k1 k2 : Nat → Int32} (y : uwYa W H h wd k k1 a 1) (ha : a < W * H) (hW : 0 < W) (c : a % W < W - 1) (r : uwRe k1 k2 a (a + 1) (uwSc h wd a (a + 1))) (hc : uwCn k1 (W * H)) (hf : uwFi k1 a) (hs : uwSc h wd a (a + 1) ≤ 2023) : uwYa W H h wd k k2 a 2 := by
  obtain ⟨m1, m2⟩ := uwXi hW ha
  have e := uwMd (W := W) (a := a)
  exact uwYR (p := a % W + 1) (q := a / W) hW y r ha (by omega) m2 (by omega) (by omega) (fun z => by unfold uwNb at z; omega) (fun x y _ _ => by unfold uwNb; omega) hc hf hs
theorem uwY2n {W H a : Nat} {h wd k k1 : Nat → Int32} (y : uwYa W H h wd k k1 a 1) (c : ¬ a % W < W - 1) : uwYa W H h wd k k1 a 2 := uwYN y (fun x y hx _ => by unfold uwNb; omega)
theorem uwY3 {W H a : Nat} {h wd k k1 k2 : Nat → Int32} (y : uwYa W H h wd k k1 a 2) (ha : a < W * H) (hW : 0 < W) (c : W ≤ a) (r : uwRe k1 k2 a (a - W) (uwSc h wd a (a - W))) (hc : uwCn k1 (W * H)) (hf : uwFi k1 a) (hs : uwSc h wd a (a - W) ≤ 2023) : uwYa W H h wd k k2 a 3 := by
  obtain ⟨m1, m2⟩ := uwXi hW ha
  have e := uwMd (W := W) (a := a)
  have d1 : 1 ≤ a / W := (Nat.le_div_iff_mul_le hW).mpr (by omega)
  have e2 : W * (a / W - 1) + W = W * (a / W) := by
    rw [← Nat.mul_succ]; congr 1; omega
  exact uwYR (p := a % W) (q := a / W - 1) hW y r ha m1 (by omega) (by omega) (by omega) (fun z => by unfold uwNb at z; omega) (fun x y _ _ => by unfold uwNb; omega) hc hf hs
theorem uwY3n {W H a : Nat} {h wd k k1 : Nat → Int32} (y : uwYa W H h wd k k1 a 2) (c : ¬ W ≤ a) : uwYa W H h wd k k1 a 3 := uwYN y (fun x y hx _ => by
  have z : a / W = 0 := Nat.div_eq_of_lt (by omega)
  unfold uwNb; omega)
theorem uwY4 {W H a : Nat} {h wd k k1 k2 : Nat → Int32} (y : uwYa W H h wd k k1 a 3) (ha : a < W * H) (hW : 0 < W) (c : a + W < W * H) (r : uwRe k1 k2 a (a + W) (uwSc h wd a (a + W))) (hc : uwCn k1 (W * H)) (hf : uwFi k1 a) (hs : uwSc h wd a (a + W) ≤ 2023) : uwYa W H h wd k k2 a 4 := by
  obtain ⟨m1, m2⟩ := uwXi hW ha
  have e := uwMd (W := W) (a := a)
  obtain ⟨n1, n2⟩ := uwXi hW c
  rw [Nat.add_div_right a hW] at n2
  have e2 : W * (a / W + 1) = W * (a / W) + W := Nat.mul_succ _ _
  exact uwYR (p := a % W) (q := a / W + 1) hW y r ha m1 n2 (by omega) (by omega) (fun z => by unfold uwNb at z; omega) (fun x y _ _ => by unfold uwNb; omega) hc hf hs
theorem uwY4n {W H a : Nat} {h wd k k1 : Nat → Int32} (y : uwYa W H h wd k k1 a 3) (hW : 0 < W) (c : ¬ a + W < W * H) : uwYa W H h wd k k1 a 4 := uwYN y (fun x y hx hy => by
  have e := uwMd (W := W) (a := a)
  have z : ¬ a / W + 1 < H := fun z => by
    have q : W * (a / W + 2) ≤ W * H := Nat.mul_le_mul_left _ z
    have e2 : W * (a / W + 2) = W * (a / W) + W + W := by rw [Nat.mul_add]; omega
    have m := Nat.mod_lt a hW
    omega
  unfold uwNb; omega)
theorem uwNb4 {a b x y : Nat} : uwNb 4 a b x y ↔ uwA a b x y := by
  unfold uwNb uwA
  omega
/-- a round -/
def uwJm2 (W H : Nat) (h wd : Nat → Int32) (s : Nat) (k D : Nat → Int32) (t : Nat) : Prop := uwJ W H (uwst (uwm W h) (uwm W wd)) (s % W) (s / W) (uwm W k) (fun x y => D (W * y + x) = 1) 2147483647 t
theorem uwHmN {h : Nat → Int32} {W H : Nat} (hW : 0 < W) (hh : uwHm h (W * H)) : ∀ x y, x < W → y < H → uwm W h x y ≤ 999 := fun x y hx hy => by
  obtain ⟨i1, _, _⟩ := uwIx hx hy
  obtain ⟨a, ha, e⟩ := hh (W * y + x) (by rw [Nat.mul_comm W y]; exact i1)
  unfold uwm
  rw [uNe (by omega) e]; exact ha
theorem uwWmN {wd : Nat → Int32} (hw : uRg wd 0 3) {W H : Nat} : ∀ x y, x < W → y < H → uwm W wd x y ≤ 3 := fun x y _ _ => by
  obtain ⟨k, hk, ek⟩ := uRnat hw (W * y + x) (by decide)
  simp only [Int32.reduceToInt] at hk
  unfold uwm
  rw [uNe (by omega) ek]; omega
theorem uwDn {W H a : Nat} {D : Nat → Int32} (hW : 0 < W) (x y : Nat) (hx : x < W) (hy : y < H) : (upd D a 1 (W * y + x) = 1 ↔ D (W * y + x) = 1 ∨ (x = a % W ∧ y = a / W)) := by
  by_cases c : W * y + x = a
  · rw [c, pk_us]
    refine ⟨fun _ => Or.inr ?_, fun _ => rfl⟩
    have q := uwIm (y := y) hx
    rw [c] at q
    exact ⟨q.1.symm, q.2.symm⟩
  · rw [pk_un c]
    refine ⟨Or.inl, fun k => k.elim id (fun e => absurd ?_ c)⟩
    rw [e.1, e.2]; exact uwMd
theorem uwLst {W H a : Nat} {k D : Nat → Int32} (hW : 0 < W) (ha : a < W * H) (lst : ∀ i, i < W * H → D i = 0 → ¬ k i < k a) (hc : uwCn k (W * H)) (bD : ∀ i, D i = 0 ∨ D i = 1) : ∀ x y, x < W → y < H → ¬ D (W * y + x) = 1 → uwm W k (a % W) (a / W) ≤ uwm W k x y := by
  intro x y hx hy n
  obtain ⟨i1, _, _⟩ := uwIx hx hy
  have i1 : W * y + x < W * H := by rw [Nat.mul_comm W y]; exact i1
  have q := lst (W * y + x) i1 ((bD _).resolve_right n)
  obtain ⟨p, hp, ep⟩ := hc (W * y + x) i1
  obtain ⟨z, hz, ez⟩ := hc a ha
  unfold uwm
  rw [uwMd, uNe (by omega) ep, uNe (by omega) ez]
  rw [ep, ez] at q
  exact Nat.le_of_not_lt (fun l => q ((nI_ltI (by omega) (by omega)).mpr l))
theorem uwFin {W H s a t : Nat} {h wd k D : Nat → Int32} (j : uwJm2 W H h wd s k D t) (hW : 0 < W) (hs : s < W * H) (ha : a < W * H) (hd : D a = 0) (lst : ∀ i, i < W * H → D i = 0 → ¬ k i < k a) (hc : uwCn k (W * H)) (bD : ∀ i, D i = 0 ∨ D i = 1) (hh : uwHm h (W * H)) (hw : uRg wd 0 3) (ht : t ≤ 256) : uN (k a) ≤ 2023 * t := by
  obtain ⟨s1, s2⟩ := uwXi hW hs
  obtain ⟨m1, m2⟩ := uwXi hW ha
  have b := uwStB (W := W) (H := H) (uwHmN hW hh) (uwWmN hw)
  have q := uwJm j s1 s2 (fun x y x' y' h1 h2 h3 h4 => (b x y x' y' h1 h2 h3 h4).2) (by omega) m1 m2 (by rw [uwMd, hd]; decide) (uwLst hW ha lst hc bD)
  unfold uwm at q
  rw [uwMd] at q
  exact q
theorem uwFiI {k : Nat → Int32} {a t N : Nat} (hc : uwCn k N) (ha : a < N) (h : uN (k a) ≤ 2023 * t) (ht : t ≤ 256) : uwFi k a := by
  obtain ⟨z, hz, ez⟩ := hc a ha
  rw [uNe (by omega) ez] at h
  exact ⟨z, by omega, ez⟩
theorem uwJr {W H s a t : Nat} {h wd k k' D : Nat → Int32} (j : uwJm2 W H h wd s k D t) (hW : 0 < W) (hs : s < W * H) (ha : a < W * H) (hd : D a = 0) (lst : ∀ i, i < W * H → D i = 0 → ¬ k i < k a) (hc : uwCn k (W * H)) (bD : ∀ i, D i = 0 ∨ D i = 1) (hh : uwHm h (W * H)) (hw : uRg wd 0 3) (ht : t ≤ 256) (y : uwYa W H h wd k k' a 4) : uwJm2 W H h wd s k' (upd D a 1) (t + 1) := by
  obtain ⟨s1, s2⟩ := uwXi hW hs
  obtain ⟨m1, m2⟩ := uwXi hW ha
  have b := uwStB (W := W) (H := H) (uwHmN hW hh) (uwWmN hw)
  have fin := uwFin j hW hs ha hd lst hc bD hh hw ht
  have fin : uwm W k (a % W) (a / W) ≤ 2023 * t := by unfold uwm; rw [uwMd]; exact fin
  exact uwJS j b s1 s2 m1 m2 (by rw [uwMd, hd]; decide) fin (by omega) (uwLst hW ha lst hc bD) (uwYK y (fun x y _ _ => uwNb4.symm)) (fun x y hx hy => uwDn hW x y hx hy)
theorem uwJs {W H s : Nat} {h wd k D : Nat → Int32} (hW : 0 < W) (hWH : W ≤ 16 ∧ H ≤ 16) (hs : s < W * H) (hh : uwHm h (W * H)) (hw : uRg wd 0 3) (fk : uFl (W * H) k 2147483647) (fD : uFl (W * H) D 0) : uwJm2 W H h wd s (upd k s 0) D 0 := by
  obtain ⟨s1, s2⟩ := uwXi hW hs
  have b := uwStB (W := W) (H := H) (uwHmN hW hh) (uwWmN hw)
  have ix : ∀ x y, x < W → y < H → W * y + x < W * H := fun x y hx hy => by
    obtain ⟨i1, _, _⟩ := uwIx hx hy
    rw [Nat.mul_comm W y]; exact i1
  refine uwJ0 s1 s2 (fun x y x' y' h1 h2 h3 h4 => (b x y x' y' h1 h2 h3 h4).2) ?_ ?_ (fun x y hx hy n => ?_) (fun x y hx hy d => ?_)
  · have q : (W + H) * 2023 ≤ 32 * 2023 := Nat.mul_le_mul_right _ (by omega)
    omega
  · unfold uwm
    rw [uwMd, pk_us]; exact uNe (a := 0) (by omega) rfl
  · unfold uwm
    rw [pk_un (fun e => n (by
      have q := uwIm (y := y) hx
      rw [e] at q
      exact ⟨q.1.symm, q.2.symm⟩)), fk _ (ix x y hx hy)]
    exact uNe (a := 2147483647) (by omega) rfl
  · rw [fD _ (ix x y hx hy)] at d
    exact absurd d (by decide)
theorem uwCs {k : Nat → Int32} {s N : Nat} (fk : uFl N k 2147483647) : uwCn (upd k s 0) N := by
  intro i hi
  by_cases c : i = s
  · subst c; rw [pk_us]; exact ⟨0, by omega, rfl⟩
  · rw [pk_un c, fk i hi]; exact ⟨2147483647, Nat.le_refl _, rfl⟩
/-- the reference's ways from the cell s -/
def uwWx (h wd : Nat → Int32) (W H s : Nat) (k : Nat → Int32) : Prop := ∃ d, uwD W H (uwst (uwm W h) (uwm W wd)) (s % W) (s / W) d ∧ ∀ x y, x < W → y < H → k (W * y + x) = nI (d x y)
theorem uwJf {W H s t : Nat} {h wd k D : Nat → Int32} (j : uwJm2 W H h wd s k D t) (hW : 0 < W) (hs : s < W * H) (hc : uwCn k (W * H)) (bD : ∀ i, D i = 0 ∨ D i = 1) (hh : uwHm h (W * H)) (hw : uRg wd 0 3) (hm : uSm (W * H) D = W * H) : uwWx h wd W H s k := by
  obtain ⟨s1, s2⟩ := uwXi hW hs
  have b := uwStB (W := W) (H := H) (uwHmN hW hh) (uwWmN hw)
  obtain ⟨d, hd⟩ := uwX s1 s2 (fun x y x' y' h1 h2 h3 h4 => (b x y x' y' h1 h2 h3 h4).2)
  have ix : ∀ x y, x < W → y < H → W * y + x < W * H := fun x y hx hy => by
    obtain ⟨i1, _, _⟩ := uwIx hx hy
    rw [Nat.mul_comm W y]; exact i1
  refine ⟨d, hd, fun x y hx hy => ?_⟩
  have q := uwJE j hd (fun x y hx hy => uSmA bD (W * H) hm _ (ix x y hx hy)) x y hx hy
  obtain ⟨z, hz, ez⟩ := hc _ (ix x y hx hy)
  unfold uwm at q
  rw [uNe (by omega) ez] at q
  rw [ez, q]
/-- both the same -/
theorem uwHWe {h w hm wm : Nat → Int32} {W H : Nat} (e : uHW h w hm wm W H) : ∀ x y x' y', x < W → y < H → x' < W → y' < H → uwst (uwg h) (uwg w) x y x' y' = uwst (uwm W hm) (uwm W wm) x y x' y' := by
  intro x y x' y' h1 h2 h3 h4
  obtain ⟨a1, a2, _⟩ := e x y h1 h2
  obtain ⟨b1, b2, _⟩ := e x' y' h3 h4
  unfold uwst uwg uwm
  rw [a1, b1, b2]
theorem uwWE {h w hm wm row k : Nat → Int32} {W H s : Nat} (e : uHW h w hm wm W H) (c : uwWy h w W H (s % W) (s / W) row) (m : uwWx hm wm W H s k) : ∀ x y, x < W → y < H → row (y * 16 + x) = k (W * y + x) := by
  obtain ⟨d, hd, e1⟩ := c
  obtain ⟨d', hd', e2⟩ := m
  intro x y hx hy
  rw [e1 x y hx hy, e2 x y hx hy, uwU (uwDc (uwHWe e) hd) hd' x y hx hy]
theorem uwHtI {h w hm wm : Nat → Int32} {W H : Nat} (e : uHW h w hm wm W H) : uwHt h W H := fun x y hx hy => by
  obtain ⟨_, _, a, b⟩ := e x y hx hy
  exact uOfI a (by omega) (by omega)
theorem uwHmI {h w hm wm : Nat → Int32} {W H : Nat} (hW : 0 < W) (e : uHW h w hm wm W H) : uwHm hm (W * H) := fun i hi => by
  obtain ⟨m1, m2⟩ := uwXi hW hi
  obtain ⟨a1, _, a, b⟩ := e _ _ m1 m2
  rw [uwMd] at a1
  rw [← a1]
  exact uOfI a (by omega) (by omega)
/-! the class's rows, kept: l has them -/
def uwCc (h wd : Nat → Int32) (W H n : Nat) (xs ys ms : Nat → Int32) (l : List (Nat → Int32)) : Prop := ∀ p, p < 12 → ms p = 1 → p < n ∧ uwWy h wd W H (uN (xs p)) (uN (ys p)) (l.getD p (fun _ => 0))
theorem uwCcU {h wd : Nat → Int32} {W H n k : Nat} {xs ys ms c : Nat → Int32} {l : List (Nat → Int32)} (q : uwCc h wd W H n xs ys ms l) (hk : k < l.length) (hn : k < n) (hc : uwWy h wd W H (uN (xs k)) (uN (ys k)) c) : uwCc h wd W H n xs ys (upd ms k 1) (l.set k c) := by
  intro p hp m
  by_cases e : p = k
  · subst e
    rw [List.getD_eq_getElem?_getD, List.getElem?_set_self hk]
    exact ⟨hn, hc⟩
  · rw [pk_un e] at m
    rw [List.getD_eq_getElem?_getD, List.getElem?_set_ne (fun z => e z.symm), ← List.getD_eq_getElem?_getD]
    exact q p hp m
/-- what forgets -/
def uwMz (ms ms' : Nat → Int32) (D : Prop) : Prop := (¬ D → ms' = ms) ∧ (D → uFl 12 ms' 0)
theorem uwMzP {ms ms' : Nat → Int32} {D : Prop} (h : D) (f : uFl 12 ms' 0) : uwMz ms ms' D := ⟨fun n => absurd h n, fun _ => f⟩
theorem uwMzN {ms : Nat → Int32} {D : Prop} (h : ¬ D) : uwMz ms ms D := ⟨fun _ => rfl, fun d => absurd d h⟩
theorem uwCcF {D : Prop} {h wd h' wd' : Nat → Int32} {W H n W' H' n' : Nat} {xs ys ms ms' : Nat → Int32} {l : List (Nat → Int32)} (q : uwCc h wd W H n xs ys ms l) (m : uwMz ms ms' D) (e : ¬ D → h' = h ∧ wd' = wd ∧ W' = W ∧ H' = H ∧ n' = n) : uwCc h' wd' W' H' n' xs ys ms' l := by
  by_cases d : D
  · intro p hp k
    rw [m.2 d p hp] at k
    exact absurd k (by decide)
  · obtain ⟨e1, e2, e3, e4, e5⟩ := e d
    rw [m.1 d, e1, e2, e3, e4, e5]; exact q
theorem uwCcP {D : Prop} {h wd : Nat → Int32} {W H n n' : Nat} {xs ys xs' ys' ms : Nat → Int32} {x y : Int32} {l : List (Nat → Int32)} (q : uwCc h wd W H n xs ys ms l) (e1 : n' = uIte D (n + 1) n) (e2 : xs' = uIte D (upd xs n x) xs) (e3 : ys' = uIte D (upd ys n y) ys) : uwCc h wd W H n' xs' ys' ms l := by
  by_cases d : D
  · rw [uItP d] at e1 e2 e3
    intro p hp k
    obtain ⟨k1, k2⟩ := q p hp k
    rw [e1, e2, e3, pk_un (by omega), pk_un (by omega)]
    exact ⟨by omega, k2⟩
  · rw [uItN d] at e1 e2 e3
    rw [e1, e2, e3]; exact q
theorem uwCc0 {h wd : Nat → Int32} {W H n : Nat} {xs ys : Nat → Int32} {l : List (Nat → Int32)} : uwCc h wd W H n xs ys (fun _ => 0) l := fun p _ k => absurd (show (0 : Int32) = 1 from k) (by decide)
/-! for the contracts of the class's ways -/
theorem uwOvA {h wd row : Nat → Int32} {W H u v to k : Nat} {x y : Int32} (hW : W ≤ 16) (hH : H ≤ 16) (hu : u < W) (hv : v < H) (hh : uwHt h W H) (hr : uwRw row) (ht : ∃ a b, a < W ∧ b < H ∧ to = b * 16 + a) (ek : wd to = nI k) (hk : k ≤ 3) (ea : x = nI u) (eb : y = nI v) (c : ¬ h to - h (v * 16 + u) ≤ 0) : row (v * 16 + u) + 10 + 2 * (h to - h (v * 16 + u)) + nI (5 * k) = nI (uwOn h wd row W H x y to) := by
  have i : uInL x y W H := by
    unfold uInL
    rw [ea, eb, nI_toInt (by omega), nI_toInt (by omega)]
    omega
  obtain ⟨s, t, hs, ht, et⟩ := ht
  obtain ⟨p, hp, ep⟩ := hh s t hs ht
  obtain ⟨q, hq, eq⟩ := hh u v hu hv
  obtain ⟨a, ha, e⟩ := hr (v * 16 + u) (by omega)
  rw [← et] at ep
  unfold uwOn
  rw [uItP i, uNe (show u < 2 ^ 31 by omega) ea, uNe (show v < 2 ^ 31 by omega) eb, uNe (show a < 2 ^ 31 by omega) e, uNe (show p < 2 ^ 31 by omega) ep, uNe (show q < 2 ^ 31 by omega) eq, uNe (show k < 2 ^ 31 by omega) ek]
  rw [ep, eq] at c ⊢
  rw [e]
  exact uwOv1 hp hq ha hk c
theorem uwOvB {h wd row : Nat → Int32} {W H u v to k : Nat} {x y : Int32} (hW : W ≤ 16) (hH : H ≤ 16) (hu : u < W) (hv : v < H) (hh : uwHt h W H) (hr : uwRw row) (ht : ∃ a b, a < W ∧ b < H ∧ to = b * 16 + a) (ek : wd to = nI k) (hk : k ≤ 3) (ea : x = nI u) (eb : y = nI v) (c : h to - h (v * 16 + u) ≤ 0) : row (v * 16 + u) + 10 + -(h to - h (v * 16 + u)) + nI (5 * k) = nI (uwOn h wd row W H x y to) := by
  have i : uInL x y W H := by
    unfold uInL
    rw [ea, eb, nI_toInt (by omega), nI_toInt (by omega)]
    omega
  obtain ⟨s, t, hs, ht, et⟩ := ht
  obtain ⟨p, hp, ep⟩ := hh s t hs ht
  obtain ⟨q, hq, eq⟩ := hh u v hu hv
  obtain ⟨a, ha, e⟩ := hr (v * 16 + u) (by omega)
  rw [← et] at ep
  unfold uwOn
  rw [uItP i, uNe (show u < 2 ^ 31 by omega) ea, uNe (show v < 2 ^ 31 by omega) eb, uNe (show a < 2 ^ 31 by omega) e, uNe (show p < 2 ^ 31 by omega) ep, uNe (show q < 2 ^ 31 by omega) eq, uNe (show k < 2 ^ 31 by omega) ek]
  rw [ep, eq] at c ⊢
  rw [e]
  exact uwOv2 hp hq ha hk c
/-- what lower tells -/
def uwLt (h wd row row' : Nat → Int32) (W H x y : Nat) (r : Int32) : Prop := ∃ m : Nat, (row' = upd row (y * 16 + x) (nI m) ∧ m ≤ 1073741823) ∧ uwLw h wd row W H x y m ∧ ((r = 1 ∧ m < uN (row (y * 16 + x))) ∨ (r = 0 ∧ ¬ m < uN (row (y * 16 + x))))
theorem uwLtR {h wd row row' : Nat → Int32} {W H x y : Nat} {r : Int32} (w : uwLt h wd row row' W H x y r) (hr : uwRw row) : uwRw row' := by
  obtain ⟨m, ⟨e, hm⟩, _⟩ := w
  rw [e]; exact uwRwU hr hm
theorem uwZp0 {W c : Nat} {fl : Int32} {x y : Nat} (hc : y * W + x < c) : ¬ uwZp W c fl 0 x y := by
  rintro (⟨_, k⟩ | ⟨_, k⟩) <;> omega
theorem uwZL {h wd row row' : Nat → Int32} {W H i t : Nat} {r0 : Nat → Nat → Nat} {fl mv r : Int32} (z : uwZ W H (uwst (uwg h) (uwg wd)) r0 (uwg row) (uwZp W (W * H) fl i) mv) (w : uwLt h wd row row' W H (t % W) (t / W) r) (hr : uwRw row) (hW : W ≤ 16) (hH : H ≤ 16) (h0 : 0 < W) (ht : t < W * H) (ci : i < W * H) (e : (¬ fl = 0 ∧ t = i) ∨ (fl = 0 ∧ t = W * H - 1 - i)) : uwZ W H (uwst (uwg h) (uwg wd)) r0 (uwg row') (uwZp W (W * H) fl (i + 1)) (mv ||| r) := by
  obtain ⟨m, ⟨e1, hm⟩, l, c⟩ := w
  obtain ⟨m1, m2⟩ := uwXi h0 ht
  have d := uwMd (W := W) (a := t)
  rw [Nat.mul_comm] at d
  rw [e1]
  refine uwZS z (uwLwL hW hH m1 m2 hr hm l) m1 m2 (fun a b ha hb k => ?_) c rfl
  by_cases q : b * W + a = t
  · right
    obtain ⟨_, i2, i3⟩ := uwIx (H := H) ha hb
    rw [q] at i2 i3
    exact ⟨i2.symm, i3.symm⟩
  · left
    unfold uwZp at k ⊢
    obtain ⟨i1, _, _⟩ := uwIx (H := H) ha hb
    rcases k with ⟨k1, k2⟩ | ⟨k1, k2⟩
    · rcases e with ⟨_, e⟩ | ⟨e0, _⟩
      · exact Or.inl ⟨k1, by omega⟩
      · exact absurd e0 k1
    · rcases e with ⟨e0, _⟩ | ⟨_, e⟩
      · exact absurd k1 e0
      · exact Or.inr ⟨k1, by omega⟩
theorem uwZE {W H i : Nat} {w : Nat → Nat → Nat → Nat → Nat} {r0 r : Nat → Nat → Nat} {fl mv : Int32} (z : uwZ W H w r0 r (uwZp W (W * H) fl i) mv) (hi : W * H ≤ i) : uwO W H w r0 r mv := by
  refine uwZW z (fun x y hx hy _ => ?_)
  obtain ⟨i1, _, _⟩ := uwIx (H := H) hx hy
  unfold uwZp
  by_cases c : fl = 0
  · exact Or.inr ⟨c, by omega⟩
  · exact Or.inl ⟨c, by omega⟩
def uwEx (W H : Nat) (w : Nat → Nat → Nat → Nat → Nat) (sx sy : Nat) (r : Nat → Nat → Nat) : Prop := ∀ d, uwD W H w sx sy d → ∀ x y, x < W → y < H → r x y = d x y
/-- the answers -/
def uwWa (D : Prop) (W H : Nat) (w : Nat → Nat → Nat → Nat → Nat) (ax ay bx b_ : Nat) (r : Int32) : Prop := (¬ D ∧ r = -1) ∨ (D ∧ ∃ d, uwD W H w ax ay d ∧ r = nI (d bx b_))
theorem uwWaE {D : Prop} {W H ax ay bx b_ : Nat} {w w' : Nat → Nat → Nat → Nat → Nat} {r r' : Int32} (e : ∀ x y x' y', x < W → y < H → x' < W → y' < H → w x y x' y' = w' x y x' y') (hb : D → bx < W ∧ b_ < H) (c : uwWa D W H w ax ay bx b_ r) (k : uwWa D W H w' ax ay bx b_ r') : r = r' := by
  rcases c with ⟨c1, c2⟩ | ⟨c1, d, c2, c3⟩
  · rcases k with ⟨_, k2⟩ | ⟨k1, _⟩
    · rw [c2, k2]
    · exact absurd k1 c1
  · rcases k with ⟨k1, _⟩ | ⟨_, d', k2, k3⟩
    · exact absurd c1 k1
    · rw [c3, k3, uwU (uwDc e c2) k2 bx b_ (hb c1).1 (hb c1).2]
theorem uwPx {f g cl lo hg : Nat → Int32} {n W H k : Nat} (p : uPo f g cl lo hg n W H) (rf : uRg f 0 15) (rg : uRg g 0 15) (hk : k < n) : uN (f k) < W ∧ uN (g k) < H ∧ uN (f k) < 16 ∧ uN (g k) < 16 ∧ cl k = nI (uN (g k) * 16 + uN (f k)) := by
  obtain ⟨a, b, c, _⟩ := p k hk
  obtain ⟨x, hx, ex⟩ := uR15 rf k
  obtain ⟨y, hy, ey⟩ := uR15 rg k
  have e1 := uNe (show x < 2 ^ 31 by omega) ex
  have e2 := uNe (show y < 2 ^ 31 by omega) ey
  rw [ex, nI_toInt (by omega)] at a
  rw [ey, nI_toInt (by omega)] at b
  rw [e1, e2] at c ⊢
  exact ⟨by omega, by omega, by omega, by omega, c⟩
theorem uwM0 {h wd row : Nat → Int32} {W H sx sy a : Nat} (hW : W ≤ 16) (hH : H ≤ 16) (hsx : sx < W) (hsy : sy < H) (ea : a = sy * 16 + sx) (hh : uwHt h W H) (hw : uRg wd 0 3) (f : uFl 256 row 1073741823) : uwQ W H (uwst (uwg h) (uwg wd)) sx sy (uwg (upd row a 0)) := by
  have b := uwStB (W := W) (H := H) (uwHtN hh) (uwWdN hw)
  refine uwQ0 (M := 1073741823) hsx hsy (fun x y x' y' h1 h2 h3 h4 => (b x y x' y' h1 h2 h3 h4).2) ?_ ?_ (fun x y hx hy n => ?_)
  · have q : (W + H) * 2023 ≤ 32 * 2023 := Nat.mul_le_mul_right _ (by omega)
    omega
  · unfold uwg
    rw [ea, pk_us]; exact uNe (a := 0) (by omega) rfl
  · unfold uwg
    rw [ea, pk_un (fun e => n ⟨by omega, by omega⟩), f _ (by omega)]
    exact uNe (a := 1073741823) (by omega) rfl
theorem uwMR {row : Nat → Int32} {a : Nat} (f : uFl 256 row 1073741823) : uwRw (upd row a 0) := uwRwU (m := 0) (uwRwF f) (by omega)
theorem uwWyX {h wd row : Nat → Int32} {W H sx sy : Nat} (hW : W ≤ 16) (hH : H ≤ 16) (hsx : sx < W) (hsy : sy < H) (hh : uwHt h W H) (hw : uRg wd 0 3) (hr : uwRw row) (e : uwEx W H (uwst (uwg h) (uwg wd)) sx sy (uwg row)) : uwWy h wd W H sx sy row := by
  have b := uwStB (W := W) (H := H) (uwHtN hh) (uwWdN hw)
  exact uwWyI hW hH hr e (uwX hsx hsy (fun x y x' y' h1 h2 h3 h4 => (b x y x' y' h1 h2 h3 h4).2))
theorem uwCS2 {h wd : Nat → Int32} {W H sx sy t : Nat} {r0 r : Nat → Nat → Nat} {mv : Int32} (hsx : sx < W) (hsy : sy < H) (hh : uwHt h W H) (hw : uRg wd 0 3) (q : uwQ W H (uwst (uwg h) (uwg wd)) sx sy r0) (s : uwO W H (uwst (uwg h) (uwg wd)) r0 r mv) (c : uwC W H (uwst (uwg h) (uwg wd)) sx sy r0 t) : uwC W H (uwst (uwg h) (uwg wd)) sx sy r (t + 1) := uwCS hsx hsy (fun x y x' y' h1 h2 h3 h4 => (uwStB (W := W) (H := H) (uwHtN hh) (uwWdN hw) x y x' y' h1 h2 h3 h4).1) q s c
theorem uwMv {W H sx sy : Nat} {w : Nat → Nat → Nat → Nat → Nat} {r0 r : Nat → Nat → Nat} {mv : Int32} (q : uwQ W H w sx sy r0) (s : uwO W H w r0 r mv) : mv = 1 ∨ uwEx W H w sx sy r := by
  rcases s.1 with e | e
  · exact Or.inr (fun d hd => uwE1 hd q s e)
  · exact Or.inl e
def uwPm (f g : Nat → Int32) (n W H : Nat) : Prop := ∀ k, k < n → uN (f k) < W ∧ uN (g k) < H
theorem uwPmI {f g cl lo hg : Nat → Int32} {n W H : Nat} (p : uPo f g cl lo hg n W H) (rf : uRg f 0 15) (rg : uRg g 0 15) : uwPm f g n W H := fun k hk => ⟨(uwPx p rf rg hk).1, (uwPx p rf rg hk).2.1⟩
theorem uwPmC {f g : Nat → Int32} {n W H k : Nat} (p : uwPm f g n W H) (hk : k < n) : W * uN (g k) + uN (f k) < W * H := by
  obtain ⟨a, b⟩ := p k hk
  obtain ⟨i1, _, _⟩ := uwIx a b
  rw [Nat.mul_comm W (uN (g k))]; exact i1
theorem uwWw {h wd f g k : Nat → Int32} {n W H a b : Nat} (p : uwPm f g n W H) (ha : a < n) (hb : b < n) (x : uwWx h wd W H (W * uN (g a) + uN (f a)) k) : ∃ d, uwD W H (uwst (uwm W h) (uwm W wd)) (uN (f a)) (uN (g a)) d ∧ k (W * uN (g b) + uN (f b)) = nI (d (uN (f b)) (uN (g b))) := by
  obtain ⟨d, hd, e⟩ := x
  obtain ⟨a1, a2⟩ := p a ha
  obtain ⟨b1, b2⟩ := p b hb
  rw [(uwIm a1).1, (uwIm a1).2] at hd
  exact ⟨d, hd, e _ _ b1 b2⟩
theorem uwWz {h wd : Nat → Int32} {W H n a k b c : Nat} {xs ys ms cl row : Nat → Int32} {l : List (Nat → Int32)} (ha : a < 12 ∧ c < 2 ^ 31) (q : uwCc h wd W H n xs ys ms l) (e : a = k) (m : ms a = 1) (p : uN (xs b) < W ∧ uN (ys b) < H ∧ uN (xs b) < 16 ∧ uN (ys b) < 16 ∧ cl b = nI (uN (ys b) * 16 + uN (xs b))) (ec : cl b = nI c) (er : l.getD k (fun _ => 0) = row := by rfl) : ∃ d, uwD W H (uwst (uwg h) (uwg wd)) (uN (xs a)) (uN (ys a)) d ∧ row c = nI (d (uN (xs b)) (uN (ys b))) := by
  obtain ⟨_, d, hd, e1⟩ := q a ha.1 m
  refine ⟨d, hd, ?_⟩
  have z : c = uN (ys b) * 16 + uN (xs b) := (nI_eq ha.2 (by omega)).mp (ec.symm.trans p.2.2.2.2)
  rw [e] at e1
  rw [← er, z]
  exact e1 _ _ p.1 p.2.1
theorem uwScPA {h wd : Nat → Int32} {N a b k : Nat} (hh : uwHm h N) (ha : a < N) (hb : b < N) (ek : wd b = nI k) (hk : k ≤ 3) (c : ¬ h b - h a ≤ 0) : 10 + 2 * (h b - h a) + nI (5 * k) = nI (uwSc h wd a b) := by
  obtain ⟨p, hp, ep⟩ := hh b hb
  obtain ⟨q, hq, eq⟩ := hh a ha
  unfold uwSc
  rw [uNe (show p < 2 ^ 31 by omega) ep, uNe (show q < 2 ^ 31 by omega) eq, uNe (show k < 2 ^ 31 by omega) ek]
  rw [ep, eq] at c ⊢
  exact uwScE1 hp hq hk c
theorem uwScPB {h wd : Nat → Int32} {N a b k : Nat} (hh : uwHm h N) (ha : a < N) (hb : b < N) (ek : wd b = nI k) (hk : k ≤ 3) (c : h b - h a ≤ 0) : 10 + -(h b - h a) + nI (5 * k) = nI (uwSc h wd a b) := by
  obtain ⟨p, hp, ep⟩ := hh b hb
  obtain ⟨q, hq, eq⟩ := hh a ha
  unfold uwSc
  rw [uNe (show p < 2 ^ 31 by omega) ep, uNe (show q < 2 ^ 31 by omega) eq, uNe (show k < 2 ^ 31 by omega) ek]
  rw [ep, eq] at c ⊢
  exact uwScE2 hp hq hk c

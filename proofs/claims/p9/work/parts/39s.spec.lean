noncomputable def uIte {α : Type} (P : Prop) (a b : α) : α := @ite α P (Classical.propDecidable P) a b
theorem uItP {α : Type} {P : Prop} {a b : α} (h : P) : uIte P a b = a := by unfold uIte; exact if_pos h
theorem uItN {α : Type} {P : Prop} {a b : α} (h : ¬ P) : uIte P a b = b := by unfold uIte; exact if_neg h
def uN (x : Int32) : Nat := x.toInt.toNat
theorem uNe {x : Int32} {a : Nat} (h : a < 2 ^ 31) (e : x = nI a) : uN x = a := by rw [e]; exact congrArg Int.toNat (nI_toInt h)
def uHas (n : Nat) (x : Int32) : Prop := 0 ≤ x.toInt ∧ x.toInt < (n : Int)
def uInL (x y : Int32) (w h : Nat) : Prop := (0 ≤ x.toInt ∧ x.toInt < (w : Int)) ∧ (0 ≤ y.toInt ∧ y.toInt < (h : Int))
def uFree (f g : Nat → Int32) (n : Nat) (x y : Int32) : Prop := ∀ k, k < n → ¬ (f k = x ∧ g k = y)
theorem uFree0 {f g : Nat → Int32} {x y : Int32} : uFree f g 0 x y := fun k h => absurd h (Nat.not_lt_zero k)
theorem uFreeA {f g : Nat → Int32} {j : Nat} {x y v : Int32} (h : uFree f g j x y) (e : f j = v) (c : ¬ v = x) : uFree f g (j + 1) x y := by
  intro k hk hq
  by_cases h1 : k < j
  · exact h k h1 hq
  · have h2 : k = j := by omega
    rw [h2] at hq
    exact c (e.symm.trans hq.1)
theorem uFreeB {f g : Nat → Int32} {j : Nat} {x y v : Int32} (h : uFree f g j x y) (e : g j = v) (c : ¬ v = y) : uFree f g (j + 1) x y := by
  intro k hk hq
  by_cases h1 : k < j
  · exact h k h1 hq
  · have h2 : k = j := by omega
    rw [h2] at hq
    exact c (e.symm.trans hq.2)
theorem uFreeQ {f g : Nat → Int32} {j n : Nat} {x y : Int32} (hn : n ≤ j) (h : uFree f g j x y) : uFree f g n x y := fun k hk => h k (Nat.lt_of_lt_of_le hk hn)
theorem uFreeX {f g : Nat → Int32} {j n : Nat} {x y : Int32} (hj : j < n) (e1 : f j = x) (e2 : g j = y) : ¬ uFree f g n x y := fun h => h j hj ⟨e1, e2⟩
theorem uUpE {f : Nat → Int32} {i j : Nat} {v w : Int32} (hi : i = j) (hv : v = w) : upd f i v = upd f j w := by rw [hi, hv]
def uDL (x y : Int32) : Prop := (4 ≤ x.toInt ∧ x.toInt ≤ 16) ∧ (4 ≤ y.toInt ∧ y.toInt ≤ 16)
def uDP (x y a b d : Int32) (w h n : Nat) (f g : Nat → Int32) : Prop := ((0 ≤ x.toInt ∧ x.toInt < (w : Int)) ∧ (0 ≤ y.toInt ∧ y.toInt < (h : Int)) ∧ 1 ≤ a.toInt ∧ a.toInt ≤ b.toInt ∧ b.toInt ≤ 40 ∧ 0 ≤ d.toInt ∧ d.toInt ≤ 50 ∧ n < 12) ∧ uFree f g n x y
def uDD (x : Int32) (n : Nat) (f : Nat → Int32) : Prop := (0 ≤ x.toInt ∧ x.toInt < (n : Int)) ∧ f (uN x) = 1
def uDS (x y : Int32) (n : Nat) (f : Nat → Int32) : Prop := (0 ≤ x.toInt ∧ x.toInt < (n : Int) ∧ 0 ≤ y.toInt ∧ y.toInt ≤ 9999) ∧ f (uN x) = 0
def uDN (x y z : Int32) (n k : Nat) : Prop := (0 ≤ x.toInt ∧ x.toInt ≤ 5) ∧ (0 ≤ y.toInt ∧ y.toInt < (n : Int)) ∧ (((x.toInt = 2 ∨ x.toInt = 3) ∧ 0 ≤ z.toInt ∧ z.toInt < (n : Int) ∧ ¬ y.toInt = z.toInt) ∨ (¬ (x.toInt = 2 ∨ x.toInt = 3) ∧ 0 ≤ z.toInt ∧ z.toInt ≤ 500)) ∧ k < 60
def uDK (x : Int32) (k : Nat) : Prop := (0 ≤ x.toInt ∧ x.toInt < (k : Int)) ∧ k < 60
def uDF (k : Nat) : Prop := k ≤ 980
def uDG (a b c d e f : Int32) (w h : Nat) : Prop := (0 ≤ a.toInt ∧ a.toInt ≤ c.toInt ∧ c.toInt < (w : Int)) ∧ (0 ≤ b.toInt ∧ b.toInt ≤ d.toInt ∧ d.toInt < (h : Int)) ∧ 0 ≤ e.toInt ∧ e.toInt ≤ 999 ∧ 0 ≤ f.toInt ∧ f.toInt ≤ 3
def uDR (x : Int32) (k : Nat) : Prop := 0 ≤ x.toInt ∧ x.toInt ≤ (k : Int)
/-! what is seen: cells between, tops, eyes, the first cell that shuts -/
def uBt (a b k n : Nat) : Nat := (2 * (a * (n - k) + b * k) + n) / (2 * n)
def uBw (f : Nat → Int32) (a b k n : Nat) : Nat := uBt (uN (f a)) (uN (f b)) k n
theorem uBwE {f : Nat → Int32} {a b p q k n : Nat} (hp : p < 2 ^ 31) (hq : q < 2 ^ 31) (e1 : f a = nI p) (e2 : f b = nI q) : uBw f a b k n = uBt p q k n := by
  unfold uBw
  rw [uNe hp e1, uNe hq e2]
theorem uBt15 {a b k n : Nat} (ha : a < 16) (hb : b < 16) (hk : k ≤ n) (hn : 1 ≤ n) : uBt a b k n ≤ 15 := uBetw ha hb hk hn
theorem uBtM {a b k n w : Nat} (ha : a < w) (hb : b < w) (hk : k ≤ n) (hn : 1 ≤ n) : uBt a b k n < w := by
  unfold uBt
  have h1 : a * (n - k) ≤ (w - 1) * (n - k) := Nat.mul_le_mul_right _ (by omega)
  have h2 : b * k ≤ (w - 1) * k := Nat.mul_le_mul_right _ (by omega)
  have h3 : (w - 1) * (n - k) + (w - 1) * k = (w - 1) * n := by
    rw [← Nat.mul_add, show n - k + k = n by omega]
  have h4 : (2 * (a * (n - k) + b * k) + n) < w * (2 * n) := by
    have h5 : w * (2 * n) = 2 * ((w - 1) * n) + 2 * n := by
      obtain ⟨v, rfl⟩ : ∃ v, w = v + 1 := ⟨w - 1, by omega⟩
      rw [Nat.add_sub_cancel, Nat.add_mul, Nat.one_mul, Nat.mul_left_comm]
    omega
  have h6 : (2 * (a * (n - k) + b * k) + n) < 2 * n * w := by
    rw [Nat.mul_comm (2 * n) w]; exact h4
  exact Nat.div_lt_of_lt_mul h6
def uB4 (n k a b : Nat) : Bool := if 1 ≤ n ∧ k ≤ n then (if a ≤ b then decide (uBt a b k n = a + (2 * (b - a) * k + n) / (2 * n)) else decide (uBt a b k n + (2 * (a - b) * k + n - 1) / (2 * n) = a)) else true
set_option maxRecDepth 100000 in
theorem uB40 : ∀ n : Nat, n < 16 → ∀ k : Nat, k < 16 → ∀ a : Nat, a < 16 → ∀ b : Nat, b < 16 → uB4 n k a b = true := by decide +kernel
theorem uCutB {a b n k : Nat} (ha : a < 16) (hb : b < 16) (hn : n ≤ 15) (h1 : 1 ≤ n) (hk : k ≤ n) (hd : a ≤ b + n ∧ b ≤ a + n) : nI a + (if 0 ≤ (2 * (nI b - nI a) * nI k + nI n) - (2 * (nI b - nI a) * nI k + nI n) / nI (2 * n) * nI (2 * n) then (2 * (nI b - nI a) * nI k + nI n) / nI (2 * n) else (2 * (nI b - nI a) * nI k + nI n) / nI (2 * n) - 1) = nI (uBt a b k n) := by
  show nI a + uCt (nI b - nI a) (nI k) n = nI (uBt a b k n)
  have q4 := uB40 n (by omega) k (by omega) a ha b hb
  unfold uB4 at q4
  rw [if_pos ⟨h1, hk⟩] at q4
  by_cases h : a ≤ b
  · obtain ⟨⟨q, q2⟩, _⟩ := uCt0 n (by omega) k (by omega) (b - a) (by omega) ⟨h1, hk, by omega⟩
    rw [if_pos h, decide_eq_true_eq] at q4
    rw [pk_sub h, q, q4, nI_add]
  · obtain ⟨_, q, q2⟩ := uCt0 n (by omega) k (by omega) (a - b) (by omega) ⟨h1, hk, by omega⟩
    rw [if_neg h, decide_eq_true_eq] at q4
    rw [uNegS (by omega), q]
    generalize (2 * (a - b) * k + n - 1) / (2 * n) = X at q q2 q4 ⊢
    rw [show uBt a b k n = a - X by omega, ← pk_sub (by omega), Int32.zero_sub, ← Int32.sub_eq_add_neg]
noncomputable def uTp (h w t1 t2 : Nat → Int32) (c : Nat) (s : Int32) : Int32 := h c + uIte (s = 0) (t1 (uN (w c))) (t2 (uN (w c)))
theorem uTp0 {h w t1 t2 : Nat → Int32} {c a : Nat} {s : Int32} (hs : s = 0) (ha : a < 2 ^ 31) (e : w c = nI a) : h c + t1 a = uTp h w t1 t2 c s := by
  unfold uTp
  rw [uItP hs, uNe ha e]
theorem uTp1 {h w t1 t2 : Nat → Int32} {c a : Nat} {s : Int32} (hs : ¬ s = 0) (ha : a < 2 ^ 31) (e : w c = nI a) : h c + t2 a = uTp h w t1 t2 c s := by
  unfold uTp
  rw [uItN hs, uNe ha e]
noncomputable def uEy (h t1 t2 : Nat → Int32) (c p : Nat) (s : Int32) : Int32 := h c + uIte (s = 0) (t2 p) (t1 p)
theorem uEy0 {h t1 t2 : Nat → Int32} {c p : Nat} {s : Int32} (hs : s = 0) : h c + t2 p = uEy h t1 t2 c p s := by
  unfold uEy
  rw [uItP hs]
theorem uEy1 {h t1 t2 : Nat → Int32} {c p : Nat} {s : Int32} (hs : ¬ s = 0) : h c + t1 p = uEy h t1 t2 c p s := by
  unfold uEy
  rw [uItN hs]
def uXt (t bd : Int32) (k n : Nat) : Int32 := 1000 * t + bd * nI k * (nI n - nI k)
def uXe (ea eb : Int32) (k n : Nat) : Int32 := ea * (nI n - nI k) + eb * nI k
def uXc (t bd ea eb : Int32) (k n : Nat) : Int32 := (1000 * t + bd * nI k * (nI n - nI k)) * nI n - 1000 * (ea * (nI n - nI k) + eb * nI k)
def uXm (t bd ea eb : Int32) (k n : Nat) : Int32 := if (1000 * t + bd * nI k * (nI n - nI k)).toInt64 * (nI n).toInt64 > 1000 * (ea * (nI n - nI k) + eb * nI k).toInt64 then 1 else if (1000 * t + bd * nI k * (nI n - nI k)).toInt64 * (nI n).toInt64 = 1000 * (ea * (nI n - nI k) + eb * nI k).toInt64 then 0 else -1
noncomputable def uSk (P : Nat → Prop) (n : Nat) : Nat → Nat
  | 0 => 0
  | m + 1 => uIte (P (n - (m + 1))) (n - (m + 1)) (uSk P n m)
theorem uSk0 {P : Nat → Prop} {n : Nat} : uSk P n 0 = 0 := rfl
theorem uSkY {P : Nat → Prop} {n j : Nat} (hj : j < n) (h : P j) : uSk P n (n - j) = j := by
  obtain ⟨m, hm⟩ : ∃ m, n - j = m + 1 := ⟨n - j - 1, by omega⟩
  have e : n - (m + 1) = j := by omega
  rw [hm]
  show uIte (P (n - (m + 1))) (n - (m + 1)) (uSk P n m) = j
  rw [e, uItP h]
theorem uSkN {P : Nat → Prop} {n j : Nat} (hj : j < n) (h : ¬ P j) : uSk P n (n - j) = uSk P n (n - (j + 1)) := by
  obtain ⟨m, hm⟩ : ∃ m, n - j = m + 1 := ⟨n - j - 1, by omega⟩
  have e : n - (m + 1) = j := by omega
  have e2 : n - (j + 1) = m := by omega
  rw [hm, e2]
  show uIte (P (n - (m + 1))) (n - (m + 1)) (uSk P n m) = uSk P n m
  rw [e, uItN h]
theorem uSkZ {P : Nat → Prop} {n j : Nat} (hj : n ≤ j) : uSk P n (n - j) = 0 := by
  rw [show n - j = 0 by omega]
  rfl
theorem uSkC {P Q : Nat → Prop} {n : Nat} (h : ∀ k, 1 ≤ k → k < n → (P k ↔ Q k)) : ∀ m, m < n → uSk P n m = uSk Q n m
  | 0, _ => rfl
  | m + 1, hm => by
    show uIte (P (n - (m + 1))) (n - (m + 1)) (uSk P n m) = uIte (Q (n - (m + 1))) (n - (m + 1)) (uSk Q n m)
    rw [uSkC h m (by omega)]
    by_cases q : P (n - (m + 1))
    · rw [uItP q, uItP ((h _ (by omega) (by omega)).mp q)]
    · rw [uItN q, uItN (fun r => q ((h _ (by omega) (by omega)).mpr r))]
theorem uSkL {P : Nat → Prop} {n : Nat} : ∀ m, uSk P n m ≤ n
  | 0 => Nat.zero_le _
  | m + 1 => by
    show uIte (P (n - (m + 1))) (n - (m + 1)) (uSk P n m) ≤ n
    by_cases q : P (n - (m + 1))
    · rw [uItP q]; omega
    · rw [uItN q]; exact uSkL m
def uRe (f g : Nat → Int32) (a b : Nat) (c : Int32) : Prop := ¬ c * c < (f b - f a) * (f b - f a) + (g b - g a) * (g b - g a)
noncomputable def uLv (A : Prop) (F : Nat) (A' : Prop) (F' : Nat) : Int32 := uIte (A ∧ F = 0) 2 (uIte (A' ∧ F' = 0) 1 0)
theorem uLv2 {A A' : Prop} {F F' : Nat} (h : A ∧ F = 0) : 2 = uLv A F A' F' := by unfold uLv; rw [uItP h]
theorem uLv1 {A A' : Prop} {F F' : Nat} (h : ¬ (A ∧ F = 0)) (h' : A' ∧ F' = 0) : 1 = uLv A F A' F' := by unfold uLv; rw [uItN h, uItP h']
theorem uLv0 {A A' : Prop} {F F' : Nat} (h : ¬ (A ∧ F = 0)) (h' : ¬ (A' ∧ F' = 0)) : 0 = uLv A F A' F' := by unfold uLv; rw [uItN h, uItN h']
/-! class and model: the cell k -/
def uPc (h w t1 t2 : Nat → Int32) (bd : Int32) (f g cl lo hg : Nat → Int32) (a b : Nat) (s : Int32) (k : Nat) : Prop := ¬ uXc (uTp h w t1 t2 (uBw g a b k (uSpn f g a b) * 16 + uBw f a b k (uSpn f g a b)) s) bd (uEy h lo hg (uN (cl a)) a s) (uEy h lo hg (uN (cl b)) b s) k (uSpn f g a b) ≤ 0
noncomputable def uFc (h w t1 t2 : Nat → Int32) (bd : Int32) (f g cl lo hg : Nat → Int32) (a b : Nat) (s : Int32) : Nat := uSk (uPc h w t1 t2 bd f g cl lo hg a b s) (uSpn f g a b) (uSpn f g a b - 1)
def uPm (h w t1 t2 : Nat → Int32) (bd : Int32) (f g lo hg : Nat → Int32) (W : Nat) (a b : Nat) (s : Int32) (k : Nat) : Prop := ¬ uXm (uTp h w t1 t2 (W * uBw g a b k (uSpn f g a b) + uBw f a b k (uSpn f g a b)) s) bd (uEy h lo hg (W * uN (g a) + uN (f a)) a s) (uEy h lo hg (W * uN (g b) + uN (f b)) b s) k (uSpn f g a b) ≤ 0
noncomputable def uFm (h w t1 t2 : Nat → Int32) (bd : Int32) (f g lo hg : Nat → Int32) (W : Nat) (a b : Nat) (s : Int32) : Nat := uSk (uPm h w t1 t2 bd f g lo hg W a b s) (uSpn f g a b) (uSpn f g a b - 1)
theorem uSubLe {A B : Nat} (hA : A < 2 ^ 30) (hB : B < 2 ^ 30) : nI A - nI B ≤ 0 ↔ A ≤ B := by
  rw [Int32.le_iff_toInt_le, pk_sub_toInt (by omega) (by omega)]
  simp only [Int32.reduceToInt]
  omega
theorem uMulB {a b A B : Nat} (ha : a ≤ A) (hb : b ≤ B) : a * b ≤ A * B := Nat.mul_le_mul ha hb
theorem uXE {t b e1 e2 k n : Nat} (ht : t ≤ 1059) (hb : b ≤ 999) (h1 : e1 ≤ 1039) (h2 : e2 ≤ 1039) (hk : k < n) (hn : n ≤ 15) : (uXc (nI t) (nI b) (nI e1) (nI e2) k n ≤ 0) ↔ (uXm (nI t) (nI b) (nI e1) (nI e2) k n ≤ 0) := by
  have m1 := uMulB hb (show k ≤ 15 by omega)
  have m2 := uMulB m1 (show n - k ≤ 15 by omega)
  have m3 := uMulB (show 1000 * t + b * k * (n - k) ≤ 1000 * 1059 + 999 * 15 * 15 by omega) hn
  have m4 := uMulB h1 (show n - k ≤ 15 by omega)
  have m5 := uMulB h2 (show k ≤ 15 by omega)
  have eA : (1000 : Int32) * nI t + nI b * nI k * (nI n - nI k) = nI (1000 * t + b * k * (n - k)) := by
    rw [show (1000 : Int32) = nI 1000 from rfl, pk_sub (by omega), pk_mul, pk_mul, pk_mul, nI_add]
  have eB : nI e1 * (nI n - nI k) + nI e2 * nI k = nI (e1 * (n - k) + e2 * k) := by
    rw [pk_sub (by omega), pk_mul, pk_mul, nI_add]
  unfold uXc uXm
  rw [eA, eB]
  generalize hA1 : 1000 * t + b * k * (n - k) = A1 at m3 ⊢
  generalize hE1 : e1 * (n - k) + e2 * k = E1
  have hE2 : E1 ≤ 1039 * 15 + 1039 * 15 := by omega
  have hA2 : A1 ≤ 1000 * 1059 + 999 * 15 * 15 := by omega
  rw [show (1000 : Int32) = nI 1000 from rfl, pk_mul, pk_mul, uSubLe (by omega) (by omega), nI_l (by omega), nI_l (by omega), nI_l (by omega), show (1000 : Int64) = lN 1000 from rfl, lN_mul, lN_mul]
  by_cases h : 1000 * E1 < A1 * n
  · rw [if_pos (show lN (A1 * n) > lN (1000 * E1) from (lN_lt (by omega) (by omega)).mpr h)]
    constructor
    · intro q; omega
    · intro q; exact absurd q (by decide)
  · rw [if_neg (show ¬ lN (A1 * n) > lN (1000 * E1) from fun q => h ((lN_lt (by omega) (by omega)).mp q))]
    constructor
    · intro q
      by_cases h' : lN (A1 * n) = lN (1000 * E1)
      · rw [if_pos h']; decide
      · rw [if_neg h']; decide
    · intro q; omega
/-! the two lands -/
def uHW (h w hm wm : Nat → Int32) (W H : Nat) : Prop := ∀ i j, i < W → j < H → h (j * 16 + i) = hm (W * j + i) ∧ w (j * 16 + i) = wm (W * j + i) ∧ 0 ≤ (h (j * 16 + i)).toInt ∧ (h (j * 16 + i)).toInt ≤ 999
def uPo (f g cl lo hg : Nat → Int32) (n W H : Nat) : Prop := ∀ k, k < n → (f k).toInt < (W : Int) ∧ (g k).toInt < (H : Int) ∧ cl k = nI (uN (g k) * 16 + uN (f k)) ∧ (0 ≤ (lo k).toInt ∧ (lo k).toInt ≤ 40) ∧ (0 ≤ (hg k).toInt ∧ (hg k).toInt ≤ 40)
def uTg (t : Nat → Int32) : Prop := ∀ k, k < 4 → 0 ≤ (t k).toInt ∧ (t k).toInt ≤ 60
theorem uOfI {x : Int32} {b : Nat} (h0 : 0 ≤ x.toInt) (h1 : x.toInt ≤ (b : Int)) (hb : b + 1 < 2 ^ 31) : ∃ a : Nat, a ≤ b ∧ x = nI a := by
  obtain ⟨a, ha, e⟩ := uNat (x := x) (n := b + 1) h0 (by omega) (by omega)
  exact ⟨a, by omega, e⟩
theorem uNum {h w hm wm t1 t2 f g cl lo hg : Nat → Int32} {bd s : Int32} {W H n a b : Nat} (hW : W ≤ 16) (hH : H ≤ 16) (rw_ : uRg w 0 3) (rf : uRg f 0 15) (rg : uRg g 0 15) (r1 : uTg t1) (r2 : uTg t2) (hb0 : 0 ≤ bd.toInt) (hb1 : bd.toInt ≤ 999) (hh : uHW h w hm wm W H) (hp : uPo f g cl lo hg n W H) (ha : a < n) (hb : b < n) {k : Nat} (k1 : 1 ≤ k) (k2 : k < uSpn f g a b) : ∃ t y1 y2 bn : Nat, (t ≤ 1059 ∧ y1 ≤ 1039 ∧ y2 ≤ 1039 ∧ bn ≤ 999) ∧ bd = nI bn ∧ (uTp h w t1 t2 (uBw g a b k (uSpn f g a b) * 16 + uBw f a b k (uSpn f g a b)) s = nI t ∧ uTp hm wm t1 t2 (W * uBw g a b k (uSpn f g a b) + uBw f a b k (uSpn f g a b)) s = nI t) ∧ (uEy h lo hg (uN (cl a)) a s = nI y1 ∧ uEy hm lo hg (W * uN (g a) + uN (f a)) a s = nI y1) ∧ (uEy h lo hg (uN (cl b)) b s = nI y2 ∧ uEy hm lo hg (W * uN (g b) + uN (f b)) b s = nI y2) := by
  have hsp := uSp15 rf rg (a := a) (b := b)
  obtain ⟨pa, ha1, ea⟩ := uR15 rf a
  obtain ⟨pb, hb2, eb⟩ := uR15 rf b
  obtain ⟨qa, ha3, ea'⟩ := uR15 rg a
  obtain ⟨qb, hb4, eb'⟩ := uR15 rg b
  obtain ⟨la, la', la2, la3, la4⟩ := hp a ha
  obtain ⟨lb, lb', lb2, lb3, lb4⟩ := hp b hb
  rw [ea, nI_toInt (by omega)] at la
  rw [eb, nI_toInt (by omega)] at lb
  rw [ea', nI_toInt (by omega)] at la'
  rw [eb', nI_toInt (by omega)] at lb'
  have cX := uBtM (a := pa) (b := pb) (k := k) (n := uSpn f g a b) (w := W) (by omega) (by omega) (by omega) (by omega)
  have cY := uBtM (a := qa) (b := qb) (k := k) (n := uSpn f g a b) (w := H) (by omega) (by omega) (by omega) (by omega)
  have eX : uBw f a b k (uSpn f g a b) = uBt pa pb k (uSpn f g a b) := uBwE (by omega) (by omega) ea eb
  have eY : uBw g a b k (uSpn f g a b) = uBt qa qb k (uSpn f g a b) := uBwE (by omega) (by omega) ea' eb'
  obtain ⟨v1, v2, v3, v4⟩ := hh _ _ cX cY
  have nA : uN (cl a) = qa * 16 + pa := by rw [la2, uNe (by omega) ea, uNe (by omega) ea']; exact uNe (by omega) rfl
  have nB : uN (cl b) = qb * 16 + pb := by rw [lb2, uNe (by omega) eb, uNe (by omega) eb']; exact uNe (by omega) rfl
  obtain ⟨u1, u2, u3, u4⟩ := hh pa qa (by omega) (by omega)
  obtain ⟨x1, x2, x3, x4⟩ := hh pb qb (by omega) (by omega)
  obtain ⟨hv, hv1, ehv⟩ := uOfI (b := 999) v3 (by omega) (by omega)
  obtain ⟨hu, hu1, ehu⟩ := uOfI (b := 999) u3 (by omega) (by omega)
  obtain ⟨hx, hx1, ehx⟩ := uOfI (b := 999) x3 (by omega) (by omega)
  obtain ⟨bn, hbn, ebn⟩ := uOfI (b := 999) hb0 (by omega) (by omega)
  obtain ⟨wv, hwv, ewv⟩ := uRnat rw_ (uBt qa qb k (uSpn f g a b) * 16 + uBt pa pb k (uSpn f g a b)) (by decide)
  simp only [Int32.reduceToInt] at hwv
  obtain ⟨g1, g2⟩ := r1 wv (by omega)
  obtain ⟨g3, g4⟩ := r2 wv (by omega)
  obtain ⟨tv1, htv1, etv1⟩ := uOfI (b := 60) g1 (by omega) (by omega)
  obtain ⟨tv2, htv2, etv2⟩ := uOfI (b := 60) g3 (by omega) (by omega)
  obtain ⟨l1, hl1, el1⟩ := uOfI (b := 40) la3.1 (by omega) (by omega)
  obtain ⟨l2, hl2, el2⟩ := uOfI (b := 40) lb3.1 (by omega) (by omega)
  obtain ⟨l3, hl3, el3⟩ := uOfI (b := 40) la4.1 (by omega) (by omega)
  obtain ⟨l4, hl4, el4⟩ := uOfI (b := 40) lb4.1 (by omega) (by omega)
  -- the three numbers of this cell
  obtain ⟨t, ht, et, et'⟩ : ∃ t : Nat, t ≤ 1059 ∧ uTp h w t1 t2 (uBw g a b k (uSpn f g a b) * 16 + uBw f a b k (uSpn f g a b)) s = nI t ∧ uTp hm wm t1 t2 (W * uBw g a b k (uSpn f g a b) + uBw f a b k (uSpn f g a b)) s = nI t := by
    rw [eX, eY]
    by_cases hs : s = 0
    · refine ⟨hv + tv1, by omega, ?_, ?_⟩
      · rw [← uTp0 hs (by omega) ewv, ehv, etv1, nI_add]
      · rw [← uTp0 hs (show wv < 2 ^ 31 by omega) (v2.symm.trans ewv), ← v1, ehv, etv1, nI_add]
    · refine ⟨hv + tv2, by omega, ?_, ?_⟩
      · rw [← uTp1 hs (by omega) ewv, ehv, etv2, nI_add]
      · rw [← uTp1 hs (show wv < 2 ^ 31 by omega) (v2.symm.trans ewv), ← v1, ehv, etv2, nI_add]
  obtain ⟨y1, hy1, ey1, ey1'⟩ : ∃ y : Nat, y ≤ 1039 ∧ uEy h lo hg (uN (cl a)) a s = nI y ∧ uEy hm lo hg (W * uN (g a) + uN (f a)) a s = nI y := by
    rw [nA, uNe (by omega) ea, uNe (by omega) ea']
    by_cases hs : s = 0
    · refine ⟨hu + l3, by omega, ?_, ?_⟩
      · rw [← uEy0 hs, ehu, el3, nI_add]
      · rw [← uEy0 hs, ← u1, ehu, el3, nI_add]
    · refine ⟨hu + l1, by omega, ?_, ?_⟩
      · rw [← uEy1 hs, ehu, el1, nI_add]
      · rw [← uEy1 hs, ← u1, ehu, el1, nI_add]
  obtain ⟨y2, hy2, ey2, ey2'⟩ : ∃ y : Nat, y ≤ 1039 ∧ uEy h lo hg (uN (cl b)) b s = nI y ∧ uEy hm lo hg (W * uN (g b) + uN (f b)) b s = nI y := by
    rw [nB, uNe (by omega) eb, uNe (by omega) eb']
    by_cases hs : s = 0
    · refine ⟨hx + l4, by omega, ?_, ?_⟩
      · rw [← uEy0 hs, ehx, el4, nI_add]
      · rw [← uEy0 hs, ← x1, ehx, el4, nI_add]
    · refine ⟨hx + l2, by omega, ?_, ?_⟩
      · rw [← uEy1 hs, ehx, el2, nI_add]
      · rw [← uEy1 hs, ← x1, ehx, el2, nI_add]
  exact ⟨t, y1, y2, bn, ⟨ht, hy1, hy2, hbn⟩, ebn, ⟨et, et'⟩, ⟨ey1, ey1'⟩, ey2, ey2'⟩
theorem uFE {h w hm wm t1 t2 f g cl lo hg : Nat → Int32} {bd s : Int32} {W H n a b : Nat} (hW : W ≤ 16) (hH : H ≤ 16) (rw_ : uRg w 0 3) (rf : uRg f 0 15) (rg : uRg g 0 15) (r1 : uTg t1) (r2 : uTg t2) (hb0 : 0 ≤ bd.toInt) (hb1 : bd.toInt ≤ 999) (hh : uHW h w hm wm W H) (hp : uPo f g cl lo hg n W H) (ha : a < n) (hb : b < n) : uFc h w t1 t2 bd f g cl lo hg a b s = uFm hm wm t1 t2 bd f g lo hg W a b s := by
  unfold uFc uFm
  have hsp := uSp15 rf rg (a := a) (b := b)
  by_cases h0 : uSpn f g a b = 0
  · rw [show uSpn f g a b - 1 = 0 by omega, uSk0, uSk0]
  refine uSkC ?_ _ (by omega)
  intro k k1 k2
  obtain ⟨t, y1, y2, bn, ⟨ht, hy1, hy2, hbn⟩, ebn, ⟨et, et'⟩, ⟨ey1, ey1'⟩, ey2, ey2'⟩ := uNum (s := s) hW hH rw_ rf rg r1 r2 hb0 hb1 hh hp ha hb k1 k2
  unfold uPc uPm
  rw [et, et', ey1, ey1', ey2, ey2', ebn]
  exact not_congr (uXE ht hbn hy1 hy2 k2 hsp)
def uSd (x : Int32) (n : Nat) (st : Nat → Int32) : Prop := (0 ≤ x.toInt ∧ x.toInt < (n : Int)) ∧ ¬ st (uN x) = 2
def uD2 (x y : Int32) (n : Nat) (st : Nat → Int32) : Prop := (¬ x = y) ∧ uSd x n st ∧ uSd y n st
def uTm (x y : Int32) : Prop := (0 ≤ x.toInt ∧ x.toInt ≤ 11) ∧ (0 ≤ y.toInt ∧ y.toInt ≤ 1)
theorem uSdN {x : Int32} {n : Nat} {st : Nat → Int32} (h : uSd x n st) : uN x < n := by
  obtain ⟨⟨h1, h2⟩, -⟩ := h
  unfold uN
  omega
theorem uSiE {h w hm wm t1 t2 f g cl lo hg st : Nat → Int32} {bd X Y : Int32} {W H n : Nat} {A A' T : Prop} (hW : W ≤ 16) (hH : H ≤ 16) (rw_ : uRg w 0 3) (rf : uRg f 0 15) (rg : uRg g 0 15) (r1 : uTg t1) (r2 : uTg t2) (hb0 : 0 ≤ bd.toInt) (hb1 : bd.toInt ≤ 999) (hh : uHW h w hm wm W H) (hp : uPo f g cl lo hg n W H) : uIte (uD2 X Y n st ∧ T) (uLv A (uFc h w t1 t2 bd f g cl lo hg (uN X) (uN Y) 1) A' (uFc h w t1 t2 bd f g cl lo hg (uN X) (uN Y) 0)) (-1) = uIte (uD2 X Y n st ∧ T) (uLv A (uFm hm wm t1 t2 bd f g lo hg W (uN X) (uN Y) 1) A' (uFm hm wm t1 t2 bd f g lo hg W (uN X) (uN Y) 0)) (-1) := by
  by_cases q : uD2 X Y n st ∧ T
  · rw [uItP q, uItP q, uFE hW hH rw_ rf rg r1 r2 hb0 hb1 hh hp (uSdN q.1.2.1) (uSdN q.1.2.2), uFE hW hH rw_ rf rg r1 r2 hb0 hb1 hh hp (uSdN q.1.2.1) (uSdN q.1.2.2)]
  · rw [uItN q, uItN q]
/-! the lands are laid alike -/
theorem uIteC {α : Type} {P Q : Prop} {a b : α} (h : P ↔ Q) : uIte P a b = uIte Q a b := by
  by_cases q : P
  · rw [uItP q, uItP (h.mp q)]
  · rw [uItN q, uItN (fun r => q (h.mpr r))]
theorem uIdx {A i j i' j' : Nat} (hi : i < A) (hi' : i' < A) (e : j * A + i = j' * A + i') : i = i' ∧ j = j' := by
  have hA : 0 < A := by omega
  have e1 : (j * A + i) % A = i := by rw [Nat.add_comm, Nat.add_mul_mod_self_right, Nat.mod_eq_of_lt hi]
  have e2 : (j' * A + i') % A = i' := by rw [Nat.add_comm, Nat.add_mul_mod_self_right, Nat.mod_eq_of_lt hi']
  have e3 : i = i' := by rw [← e1, ← e2, e]
  refine ⟨e3, ?_⟩
  have e4 : j * A = j' * A := by omega
  exact Nat.eq_of_mul_eq_mul_right hA e4
/-- inside the rectangle from (a0, b0) to the columns ≤ a1, rows below y, and of row y the columns below x -/
def uLi (A : Nat) (f f' : Nat → Int32) (v : Int32) (a0 a1 b0 y x : Nat) : Prop := ∀ i j, i < A → f' (j * A + i) = uIte (a0 ≤ i ∧ i ≤ a1 ∧ b0 ≤ j ∧ (j < y ∨ (j = y ∧ i < x))) v (f (j * A + i))
theorem uLi0 {A : Nat} {f : Nat → Int32} {v : Int32} {a0 a1 b0 : Nat} : uLi A f f v a0 a1 b0 b0 0 := by
  intro i j _
  rw [uItN (by omega)]
theorem uLiI {A : Nat} {f f' : Nat → Int32} {v : Int32} {a0 a1 b0 y : Nat} (h : uLi A f f' v a0 a1 b0 y 0) : uLi A f f' v a0 a1 b0 y a0 := by
  intro i j hi
  rw [h i j hi]
  exact uIteC (by omega)
theorem uLiS {A k : Nat} {f f' : Nat → Int32} {v : Int32} {a0 a1 b0 y x : Nat} (h : uLi A f f' v a0 a1 b0 y x) (hk : k = y * A + x) (hx : x < A) (h1 : a0 ≤ x) (h2 : x ≤ a1) (h3 : b0 ≤ y) : uLi A f (upd f' k v) v a0 a1 b0 y (x + 1) := by
  intro i j hi
  by_cases e : j * A + i = k
  · obtain ⟨e1, e2⟩ := uIdx hi hx (e.trans hk)
    rw [e, pk_us, uItP (by omega)]
  · rw [pk_un e, h i j hi]
    refine uIteC ?_
    have ne : ¬ (i = x ∧ j = y) := fun q => e (by rw [q.1, q.2]; exact hk.symm)
    omega
theorem uLiE {A : Nat} {f f' : Nat → Int32} {v : Int32} {a0 a1 b0 y x : Nat} (h : uLi A f f' v a0 a1 b0 y x) (hx : a1 < x) : uLi A f f' v a0 a1 b0 (y + 1) 0 := by
  intro i j hi
  rw [h i j hi]
  exact uIteC (by omega)
/-- all the rectangle, if D -/
def uLa (A : Nat) (f f' : Nat → Int32) (D : Prop) (x0 y0 x1 y1 v : Int32) : Prop := (¬ D → f' = f) ∧ (D → ∀ i j, i < A → f' (j * A + i) = uIte (x0.toInt ≤ (i : Int) ∧ (i : Int) ≤ x1.toInt ∧ y0.toInt ≤ (j : Int) ∧ (j : Int) ≤ y1.toInt) v (f (j * A + i)))
theorem uLaN {A : Nat} {f : Nat → Int32} {D : Prop} {x0 y0 x1 y1 v : Int32} (h : ¬ D) : uLa A f f D x0 y0 x1 y1 v := ⟨fun _ => rfl, fun q => absurd q h⟩
theorem uLaP {A : Nat} {f f' : Nat → Int32} {D : Prop} {x0 y0 x1 y1 v : Int32} {a0 b0 a1 b1 y : Nat} (h : D) (q : uLi A f f' v a0 a1 b0 y 0) (hy : y = b1 + 1) (e0 : x0 = nI a0) (e1 : y0 = nI b0) (e2 : x1 = nI a1) (e3 : y1 = nI b1) (l0 : a0 < 2 ^ 31) (l1 : b0 < 2 ^ 31) (l2 : a1 < 2 ^ 31) (l3 : b1 < 2 ^ 31) : uLa A f f' D x0 y0 x1 y1 v := by
  refine ⟨fun r => absurd h r, fun _ i j hi => ?_⟩
  rw [q i j hi, e0, e1, e2, e3, nI_toInt l0, nI_toInt l1, nI_toInt l2, nI_toInt l3]
  exact uIteC (by omega)
theorem uHWg {h w h' w' hm wm hm' wm' : Nat → Int32} {W Wm H : Nat} {D D' : Prop} {x0 y0 x1 y1 v u : Int32} (hW : W ≤ 16) (eWm : W = Wm) (q : uHW h w hm wm W H) (hD : D ↔ D') (hv : D → 0 ≤ v.toInt ∧ v.toInt ≤ 999) (c1 : uLa 16 h h' D x0 y0 x1 y1 v) (c2 : uLa 16 w w' D x0 y0 x1 y1 u) (m1 : uLa Wm hm hm' D' x0 y0 x1 y1 v) (m2 : uLa Wm wm wm' D' x0 y0 x1 y1 u) : uHW h' w' hm' wm' W H := by
  subst eWm
  intro i j hi hj
  obtain ⟨q1, q2, q3, q4⟩ := q i j hi hj
  by_cases d : D
  · have k1 := c1.2 d i j (by omega)
    have k2 := c2.2 d i j (by omega)
    have k3 := m1.2 (hD.mp d) i j hi
    have k4 := m2.2 (hD.mp d) i j hi
    rw [Nat.mul_comm j W] at k3 k4
    obtain ⟨v1, v2⟩ := hv d
    rw [k1, k2, k3, k4, q1, q2]
    refine ⟨rfl, rfl, ?_⟩
    rw [← q1]
    by_cases r : x0.toInt ≤ (i : Int) ∧ (i : Int) ≤ x1.toInt ∧ y0.toInt ≤ (j : Int) ∧ (j : Int) ≤ y1.toInt
    · rw [uItP r]; exact ⟨v1, v2⟩
    · rw [uItN r]; exact ⟨q3, q4⟩
  · rw [c1.1 d, c2.1 d, m1.1 (fun r => d (hD.mpr r)), m2.1 (fun r => d (hD.mpr r))]
    exact ⟨q1, q2, q3, q4⟩
/-- all 0, if D -/
def uLz (f f' : Nat → Int32) (D : Prop) : Prop := (¬ D → f' = f) ∧ (D → ∀ k, k < 256 → f' k = 0)
theorem uHWl {h w h' w' hm wm hm' wm' : Nat → Int32} {W H W' H' : Nat} {D : Prop} (q : uHW h w hm wm W H) (hW : W' ≤ 16) (hH : H' ≤ 16) (eW : ¬ D → W' = W) (eH : ¬ D → H' = H) (c1 : uLz h h' D) (c2 : uLz w w' D) (m1 : uLz hm hm' D) (m2 : uLz wm wm' D) : uHW h' w' hm' wm' W' H' := by
  intro i j hi hj
  by_cases d : D
  · have b1 : j * 16 + i < 256 := by omega
    have b2 : W' * j + i < 256 := by
      have := Nat.mul_le_mul hW (show j ≤ 15 by omega)
      omega
    rw [c1.2 d _ b1, c2.2 d _ b1, m1.2 d _ b2, m2.2 d _ b2]
    exact ⟨rfl, rfl, by decide, by decide⟩
  · rw [c1.1 d, c2.1 d, m1.1 d, m2.1 d, eW d]
    rw [eW d] at hi
    rw [eH d] at hj
    exact q i j hi hj
theorem uPsl {f g cl lo hg : Nat → Int32} {n W H n' W' H' : Nat} {D : Prop} (q : uPo f g cl lo hg n W H) (e1 : D → n' = 0) (e2 : ¬ D → n' = n ∧ W' = W ∧ H' = H) : uPo f g cl lo hg n' W' H' := by
  by_cases d : D
  · intro k hk; rw [e1 d] at hk; exact absurd hk (Nat.not_lt_zero k)
  · obtain ⟨a, b, c⟩ := e2 d
    rw [a, b, c]; exact q
theorem uPsp {f g cl lo hg f' g' cl' lo' hg' : Nat → Int32} {n n' W H : Nat} {D : Prop} {x y a b : Int32} (q : uPo f g cl lo hg n W H) (hD : D → (0 ≤ x.toInt ∧ x.toInt < (W : Int)) ∧ (0 ≤ y.toInt ∧ y.toInt < (H : Int)) ∧ 1 ≤ a.toInt ∧ a.toInt ≤ b.toInt ∧ b.toInt ≤ 40) (en : n' = uIte D (n + 1) n) (ef : f' = uIte D (upd f n x) f) (eg : g' = uIte D (upd g n y) g) (ec : cl' = uIte D (upd cl n (nI (uN y * 16 + uN x))) cl) (el : lo' = uIte D (upd lo n a) lo) (eh : hg' = uIte D (upd hg n b) hg) : uPo f' g' cl' lo' hg' n' W H := by
  by_cases d : D
  · obtain ⟨⟨d1, d2⟩, ⟨d3, d4⟩, d5, d6, d7⟩ := hD d
    rw [uItP d] at en ef eg ec el eh
    subst en ef eg ec el eh
    intro k hk
    by_cases e : k = n
    · subst e
      rw [pk_us, pk_us, pk_us, pk_us, pk_us]
      exact ⟨d2, d4, rfl, ⟨by omega, by omega⟩, by omega, d7⟩
    · rw [pk_un e, pk_un e, pk_un e, pk_un e, pk_un e]
      exact q k (by omega)
  · rw [uItN d] at en ef eg ec el eh
    subst en ef eg ec el eh
    exact q
theorem uTgu {t t' : Nat → Int32} {D : Prop} {k : Nat} {v : Int32} (q : uTg t) (hv : D → 0 ≤ v.toInt ∧ v.toInt ≤ 60) (e : t' = uIte D (upd t k v) t) : uTg t' := by
  by_cases d : D
  · rw [uItP d] at e
    subst e
    intro j hj
    by_cases h : j = k
    · subst h; rw [pk_us]; exact hv d
    · rw [pk_un h]; exact q j hj
  · rw [uItN d] at e
    subst e
    exact q
theorem uLzN {f : Nat → Int32} {D : Prop} (h : ¬ D) : uLz f f D := ⟨fun _ => rfl, fun q => absurd q h⟩
theorem uLzP {f f' : Nat → Int32} {D : Prop} (h : D) (q : uFl 256 f' 0) : uLz f f' D := ⟨fun r => absurd h r, fun _ => q⟩
theorem uIt01 {P : Prop} : uIte P (1 : Int32) 0 = 0 ∨ uIte P (1 : Int32) 0 = 1 := by
  by_cases h : P
  · exact Or.inr (uItP h)
  · exact Or.inl (uItN h)
def uDT (x y z : Int32) : Prop := (1 ≤ x.toInt ∧ x.toInt ≤ 3) ∧ 0 ≤ y.toInt ∧ y.toInt ≤ z.toInt ∧ z.toInt ≤ 60
def uDB (x : Int32) : Prop := 0 ≤ x.toInt ∧ x.toInt ≤ 999
def uDH (x y a b : Int32) : Prop := ((0 ≤ x.toInt ∧ x.toInt ≤ 11) ∧ (0 ≤ y.toInt ∧ y.toInt ≤ 1)) ∧ 0 ≤ a.toInt ∧ a.toInt ≤ b.toInt ∧ b.toInt ≤ 30
theorem uBdu {b b' x : Int32} (q : 0 ≤ b.toInt ∧ b.toInt ≤ 999) (e : b' = uIte (uDB x) x b) : 0 ≤ b'.toInt ∧ b'.toInt ≤ 999 := by
  by_cases d : uDB x
  · rw [e, uItP d]; exact d
  · rw [e, uItN d]; exact q
theorem uBlE {h w hm wm t1 t2 f g cl lo hg st : Nat → Int32} {bd X Y s : Int32} {W H n : Nat} (hW : W ≤ 16) (hH : H ≤ 16) (rw_ : uRg w 0 3) (rf : uRg f 0 15) (rg : uRg g 0 15) (r1 : uTg t1) (r2 : uTg t2) (hb0 : 0 ≤ bd.toInt) (hb1 : bd.toInt ≤ 999) (hh : uHW h w hm wm W H) (hp : uPo f g cl lo hg n W H) : uIte (uD2 X Y n st ∧ ¬ uFc h w t1 t2 bd f g cl lo hg (uN X) (uN Y) s = 0) (nI (W * uBw g (uN X) (uN Y) (uFc h w t1 t2 bd f g cl lo hg (uN X) (uN Y) s) (uSpn f g (uN X) (uN Y)) + uBw f (uN X) (uN Y) (uFc h w t1 t2 bd f g cl lo hg (uN X) (uN Y) s) (uSpn f g (uN X) (uN Y)))) (-1) = uIte (uD2 X Y n st ∧ ¬ uFm hm wm t1 t2 bd f g lo hg W (uN X) (uN Y) s = 0) (nI (W * uBw g (uN X) (uN Y) (uFm hm wm t1 t2 bd f g lo hg W (uN X) (uN Y) s) (uSpn f g (uN X) (uN Y)) + uBw f (uN X) (uN Y) (uFm hm wm t1 t2 bd f g lo hg W (uN X) (uN Y) s) (uSpn f g (uN X) (uN Y)))) (-1) := by
  by_cases q : uD2 X Y n st
  · rw [uFE hW hH rw_ rf rg r1 r2 hb0 hb1 hh hp (uSdN q.2.1) (uSdN q.2.2)]
  · rw [uItN (fun r => q r.1), uItN (fun r => q r.1)]
theorem uZ0 : 0 ≤ (0 : Int32).toInt ∧ (0 : Int32).toInt ≤ 60 ∧ (0 : Int32).toInt ≤ 999 := by decide
theorem uHW0 : uHW (fun _ => 0) (fun _ => 0) (fun _ => 0) (fun _ => 0) 4 4 := fun _ _ _ _ => ⟨rfl, rfl, uZ0.1, uZ0.2.2⟩
theorem uTg0 : uTg (fun _ => 0) := fun _ _ => ⟨uZ0.1, uZ0.2.1⟩

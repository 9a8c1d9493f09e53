noncomputable def uIte {α : Type} (P : Prop) (a b : α) : α := @ite α P (Classical.propDecidable P) a b
theorem uItP {α : Type} {P : Prop} {a b : α} (h : P) : uIte P a b = a := by unfold uIte; exact if_pos h
theorem uItN {α : Type} {P : Prop} {a b : α} (h : ¬ P) : uIte P a b = b := by unfold uIte; exact if_neg h
def uN (x : Int32) : Nat := x.toInt.toNat
theorem uNe {x : Int32} {a : Nat} (h : a < 2 ^ 31) (e : x = nI a) : uN x = a := by rw [e]; exact congrArg Int.toNat (nI_toInt h)
def uHas (n : Nat) (x : Int32) : Prop := 0 ≤ x.toInt ∧ x.toInt < (n : Int)
def uInL (x y : Int32) (w h : Nat) : Prop := (0 ≤ x.toInt ∧ x.toInt < (w : Int)) ∧ (0 ≤ y.toInt ∧ y.toInt < (h : Int))
def uFree (f g : Nat → Int32) (n : Nat) (x y : Int32) : Prop := ∀ k, k < n → ¬ (f k = x ∧ g k = y)
theorem uFree0 {f g : Nat → Int32} {x y : Int32} : uFree f g 0 x y := fun k h => absurd h (Nat.not_lt_zero k)
theorem uFreeA {f g : Nat → Int32} {j : Nat} {x y v : Int32} (h : uFree f g j x y) (e : f j = v) (c : ¬ v = x) : uFree f g (j + 1) x y := by
  intro k hk hq
  by_cases h1 : k < j
  · exact h k h1 hq
  · have h2 : k = j := by omega
    rw [h2] at hq
    exact c (e.symm.trans hq.1)
theorem uFreeB {f g : Nat → Int32} {j : Nat} {x y v : Int32} (h : uFree f g j x y) (e : g j = v) (c : ¬ v = y) : uFree f g (j + 1) x y := by
  intro k hk hq
  by_cases h1 : k < j
  · exact h k h1 hq
  · have h2 : k = j := by omega
    rw [h2] at hq
    exact c (e.symm.trans hq.2)
theorem uFreeQ {f g : Nat → Int32} {j n : Nat} {x y : Int32} (hn : n ≤ j) (h : uFree f g j x y) : uFree f g n x y := fun k hk => h k (Nat.lt_of_lt_of_le hk hn)
theorem uFreeX {f g : Nat → Int32} {j n : Nat} {x y : Int32} (hj : j < n) (e1 : f j = x) (e2 : g j = y) : ¬ uFree f g n x y := fun h => h j hj ⟨e1, e2⟩
theorem uUpE {f : Nat → Int32} {i j : Nat} {v w : Int32} (hi : i = j) (hv : v = w) : upd f i v = upd f j w := by rw [hi, hv]
def uDL (x y : Int32) : Prop := (4 ≤ x.toInt ∧ x.toInt ≤ 16) ∧ (4 ≤ y.toInt ∧ y.toInt ≤ 16)
def uDP (x y a b d : Int32) (w h n : Nat) (f g : Nat → Int32) : Prop := ((0 ≤ x.toInt ∧ x.toInt < (w : Int)) ∧ (0 ≤ y.toInt ∧ y.toInt < (h : Int)) ∧ 1 ≤ a.toInt ∧ a.toInt ≤ b.toInt ∧ b.toInt ≤ 40 ∧ 0 ≤ d.toInt ∧ d.toInt ≤ 50 ∧ n < 12) ∧ uFree f g n x y
def uDD (x : Int32) (n : Nat) (f : Nat → Int32) : Prop := (0 ≤ x.toInt ∧ x.toInt < (n : Int)) ∧ f (uN x) = 1
def uDN (x y z : Int32) (n k : Nat) : Prop := (0 ≤ x.toInt ∧ x.toInt ≤ 5) ∧ (0 ≤ y.toInt ∧ y.toInt < (n : Int)) ∧ (((x.toInt = 2 ∨ x.toInt = 3) ∧ 0 ≤ z.toInt ∧ z.toInt < (n : Int) ∧ ¬ y.toInt = z.toInt) ∨ (¬ (x.toInt = 2 ∨ x.toInt = 3) ∧ 0 ≤ z.toInt ∧ z.toInt ≤ 500)) ∧ k < 60
def uDK (x : Int32) (k : Nat) : Prop := (0 ≤ x.toInt ∧ x.toInt < (k : Int)) ∧ k < 60
def uDG (a b c d e f : Int32) (w h : Nat) : Prop := (0 ≤ a.toInt ∧ a.toInt ≤ c.toInt ∧ c.toInt < (w : Int)) ∧ (0 ≤ b.toInt ∧ b.toInt ≤ d.toInt ∧ d.toInt < (h : Int)) ∧ 0 ≤ e.toInt ∧ e.toInt ≤ 999 ∧ 0 ≤ f.toInt ∧ f.toInt ≤ 3
def uBt (a b k n : Nat) : Nat := (2 * (a * (n - k) + b * k) + n) / (2 * n)
def uBw (f : Nat → Int32) (a b k n : Nat) : Nat := uBt (uN (f a)) (uN (f b)) k n
theorem uBwE {f : Nat → Int32} {a b p q k n : Nat} (hp : p < 2 ^ 31) (hq : q < 2 ^ 31) (e1 : f a = nI p) (e2 : f b = nI q) : uBw f a b k n = uBt p q k n := by
  unfold uBw
  rw [uNe hp e1, uNe hq e2]
theorem uBt15 {a b k n : Nat} (ha : a < 16) (hb : b < 16) (hk : k ≤ n) (hn : 1 ≤ n) : uBt a b k n ≤ 15 := uBetw ha hb hk hn
theorem uBtM {a b k n w : Nat} (ha : a < w) (hb : b < w) (hk : k ≤ n) (hn : 1 ≤ n) : uBt a b k n < w := by
  unfold uBt
  have h1 : a * (n - k) ≤ (w - 1) * (n - k) := Nat.mul_le_mul_right _ (by omega)
  have h2 : b * k ≤ (w - 1) * k := Nat.mul_le_mul_right _ (by omega)
  have h3 : (w - 1) * (n - k) + (w - 1) * k = (w - 1) * n := by
    rw [← Nat.mul_add, show n - k + k = n by omega]
  have h4 : (2 * (a * (n - k) + b * k) + n) < w * (2 * n) := by
    have h5 : w * (2 * n) = 2 * ((w - 1) * n) + 2 * n := by
      obtain ⟨v, rfl⟩ : ∃ v, w = v + 1 := ⟨w - 1, by omega⟩
      rw [Nat.add_sub_cancel, Nat.add_mul, Nat.one_mul, Nat.mul_left_comm]
    omega
  have h6 : (2 * (a * (n - k) + b * k) + n) < 2 * n * w := by
    rw [Nat.mul_comm (2 * n) w]; exact h4
  exact Nat.div_lt_of_lt_mul h6
def uB4 (n k a b : Nat) : Bool := if 1 ≤ n ∧ k ≤ n then (if a ≤ b then decide (uBt a b k n = a + (2 * (b - a) * k + n) / (2 * n)) else decide (uBt a b k n + (2 * (a - b) * k + n - 1) / (2 * n) = a)) else true
set_option maxRecDepth 100000 in
theorem uB40 : ∀ n : Nat, n < 16 → ∀ k : Nat, k < 16 → ∀ a : Nat, a < 16 → ∀ b : Nat, b < 16 → uB4 n k a b = true := by decide +kernel
theorem uCutB {a b n k : Nat} (ha : a < 16) (hb : b < 16) (hn : n ≤ 15) (h1 : 1 ≤ n) (hk : k ≤ n) (hd : a ≤ b + n ∧ b ≤ a + n) : nI a + (if 0 ≤ (2 * (nI b - nI a) * nI k + nI n) - (2 * (nI b - nI a) * nI k + nI n) / nI (2 * n) * nI (2 * n) then (2 * (nI b - nI a) * nI k + nI n) / nI (2 * n) else (2 * (nI b - nI a) * nI k + nI n) / nI (2 * n) - 1) = nI (uBt a b k n) := by
  show nI a + uCt (nI b - nI a) (nI k) n = nI (uBt a b k n)
  have q4 := uB40 n (by omega) k (by omega) a ha b hb
  unfold uB4 at q4
  rw [if_pos ⟨h1, hk⟩] at q4
  by_cases h : a ≤ b
  · obtain ⟨⟨q, q2⟩, _⟩ := uCt0 n (by omega) k (by omega) (b - a) (by omega) ⟨h1, hk, by omega⟩
    rw [if_pos h, decide_eq_true_eq] at q4
    rw [pk_sub h, q, q4, nI_add]
  · obtain ⟨_, q, q2⟩ := uCt0 n (by omega) k (by omega) (a - b) (by omega) ⟨h1, hk, by omega⟩
    rw [if_neg h, decide_eq_true_eq] at q4
    rw [uNegS (by omega), q]
    generalize (2 * (a - b) * k + n - 1) / (2 * n) = X at q q2 q4 ⊢
    rw [show uBt a b k n = a - X by omega, ← pk_sub (by omega), Int32.zero_sub, ← Int32.sub_eq_add_neg]
noncomputable def uTp (h w t1 t2 : Nat → Int32) (c : Nat) (s : Int32) : Int32 := h c + uIte (s = 0) (t1 (uN (w c))) (t2 (uN (w c)))
theorem uTp0 {h w t1 t2 : Nat → Int32} {c a : Nat} {s : Int32} (hs : s = 0) (ha : a < 2 ^ 31) (e : w c = nI a) : h c + t1 a = uTp h w t1 t2 c s := by
  unfold uTp
  rw [uItP hs, uNe ha e]
theorem uTp1 {h w t1 t2 : Nat → Int32} {c a : Nat} {s : Int32} (hs : ¬ s = 0) (ha : a < 2 ^ 31) (e : w c = nI a) : h c + t2 a = uTp h w t1 t2 c s := by
  unfold uTp
  rw [uItN hs, uNe ha e]
noncomputable def uEy (h t1 t2 : Nat → Int32) (c p : Nat) (s : Int32) : Int32 := h c + uIte (s = 0) (t2 p) (t1 p)
theorem uEy0 {h t1 t2 : Nat → Int32} {c p : Nat} {s : Int32} (hs : s = 0) : h c + t2 p = uEy h t1 t2 c p s := by
  unfold uEy
  rw [uItP hs]
theorem uEy1 {h t1 t2 : Nat → Int32} {c p : Nat} {s : Int32} (hs : ¬ s = 0) : h c + t1 p = uEy h t1 t2 c p s := by
  unfold uEy
  rw [uItN hs]
def uXc (t bd ea eb : Int32) (k n : Nat) : Int32 := (1000 * t + bd * nI k * (nI n - nI k)) * nI n - 1000 * (ea * (nI n - nI k) + eb * nI k)
def uXm (t bd ea eb : Int32) (k n : Nat) : Int32 := if (1000 * t + bd * nI k * (nI n - nI k)).toInt64 * (nI n).toInt64 > 1000 * (ea * (nI n - nI k) + eb * nI k).toInt64 then 1 else if (1000 * t + bd * nI k * (nI n - nI k)).toInt64 * (nI n).toInt64 = 1000 * (ea * (nI n - nI k) + eb * nI k).toInt64 then 0 else -1
noncomputable def uSk (P : Nat → Prop) (n : Nat) : Nat → Nat
  | 0 => 0
  | m + 1 => uIte (P (n - (m + 1))) (n - (m + 1)) (uSk P n m)
theorem uSk0 {P : Nat → Prop} {n : Nat} : uSk P n 0 = 0 := rfl
theorem uSkY {P : Nat → Prop} {n j : Nat} (hj : j < n) (h : P j) : uSk P n (n - j) = j := by
  obtain ⟨m, hm⟩ : ∃ m, n - j = m + 1 := ⟨n - j - 1, by omega⟩
  have e : n - (m + 1) = j := by omega
  rw [hm]
  show uIte (P (n - (m + 1))) (n - (m + 1)) (uSk P n m) = j
  rw [e, uItP h]
theorem uSkN {P : Nat → Prop} {n j : Nat} (hj : j < n) (h : ¬ P j) : uSk P n (n - j) = uSk P n (n - (j + 1)) := by
  obtain ⟨m, hm⟩ : ∃ m, n - j = m + 1 := ⟨n - j - 1, by omega⟩
  have e : n - (m + 1) = j := by omega
  have e2 : n - (j + 1) = m := by omega
  rw [hm, e2]
  show uIte (P (n - (m + 1))) (n - (m + 1)) (uSk P n m) = uSk P n m
  rw [e, uItN h]
theorem uSkZ {P : Nat → Prop} {n j : Nat} (hj : n ≤ j) : uSk P n (n - j) = 0 := by
  rw [show n - j = 0 by omega]
  rfl
theorem uSkC {P Q : Nat → Prop} {n : Nat} (h : ∀ k, 1 ≤ k → k < n → (P k ↔ Q k)) : ∀ m, m < n → uSk P n m = uSk Q n m
  | 0, _ => rfl
  | m + 1, hm => by
    show uIte (P (n - (m + 1))) (n - (m + 1)) (uSk P n m) = uIte (Q (n - (m + 1))) (n - (m + 1)) (uSk Q n m)
    rw [uSkC h m (by omega)]
    by_cases q : P (n - (m + 1))
    · rw [uItP q, uItP ((h _ (by omega) (by omega)).mp q)]
    · rw [uItN q, uItN (fun r => q ((h _ (by omega) (by omega)).mpr r))]
theorem uSkL {P : Nat → Prop} {n : Nat} : ∀ m, uSk P n m ≤ n
  | 0 => Nat.zero_le _
  | m + 1 => by
    show uIte (P (n - (m + 1))) (n - (m + 1)) (uSk P n m) ≤ n
    by_cases q : P (n - (m + 1))
    · rw [uItP q]; omega
    · rw [uItN q]; exact uSkL m
def uRe (f g : Nat → Int32) (a b : Nat) (c : Int32) : Prop := ¬ c * c < (f b - f a) * (f b - f a) + (g b - g a) * (g b - g a)
noncomputable def uLv (A : Prop) (F : Nat) (A' : Prop) (F' : Nat) : Int32 := uIte (A ∧ F = 0) 2 (uIte (A' ∧ F' = 0) 1 0)
theorem uLv2 {A A' : Prop} {F F' : Nat} (h : A ∧ F = 0) : 2 = uLv A F A' F' := by unfold uLv; rw [uItP h]
theorem uLv1 {A A' : Prop} {F F' : Nat} (h : ¬ (A ∧ F = 0)) (h' : A' ∧ F' = 0) : 1 = uLv A F A' F' := by unfold uLv; rw [uItN h, uItP h']
theorem uLv0 {A A' : Prop} {F F' : Nat} (h : ¬ (A ∧ F = 0)) (h' : ¬ (A' ∧ F' = 0)) : 0 = uLv A F A' F' := by unfold uLv; rw [uItN h, uItN h']
/-! class and model: the cell k -/
def uPc (h w t1 t2 : Nat → Int32) (bd : Int32) (f g cl lo hg : Nat → Int32) (a b : Nat) (s : Int32) (k : Nat) : Prop := ¬ uXc (uTp h w t1 t2 (uBw g a b k (uSpn f g a b) * 16 + uBw f a b k (uSpn f g a b)) s) bd (uEy h lo hg (uN (cl a)) a s) (uEy h lo hg (uN (cl b)) b s) k (uSpn f g a b) ≤ 0
noncomputable def uFc (h w t1 t2 : Nat → Int32) (bd : Int32) (f g cl lo hg : Nat → Int32) (a b : Nat) (s : Int32) : Nat := uSk (uPc h w t1 t2 bd f g cl lo hg a b s) (uSpn f g a b) (uSpn f g a b - 1)
def uPm (h w t1 t2 : Nat → Int32) (bd : Int32) (f g lo hg : Nat → Int32) (W : Nat) (a b : Nat) (s : Int32) (k : Nat) : Prop := ¬ uXm (uTp h w t1 t2 (W * uBw g a b k (uSpn f g a b) + uBw f a b k (uSpn f g a b)) s) bd (uEy h lo hg (W * uN (g a) + uN (f a)) a s) (uEy h lo hg (W * uN (g b) + uN (f b)) b s) k (uSpn f g a b) ≤ 0
noncomputable def uFm (h w t1 t2 : Nat → Int32) (bd : Int32) (f g lo hg : Nat → Int32) (W : Nat) (a b : Nat) (s : Int32) : Nat := uSk (uPm h w t1 t2 bd f g lo hg W a b s) (uSpn f g a b) (uSpn f g a b - 1)
theorem uSubLe {A B : Nat} (hA : A < 2 ^ 30) (hB : B < 2 ^ 30) : nI A - nI B ≤ 0 ↔ A ≤ B := by
  rw [Int32.le_iff_toInt_le, pk_sub_toInt (by omega) (by omega)]
  simp only [Int32.reduceToInt]
  omega
theorem uMulB {a b A B : Nat} (ha : a ≤ A) (hb : b ≤ B) : a * b ≤ A * B := Nat.mul_le_mul ha hb
theorem uXE {t b e1 e2 k n : Nat} (ht : t ≤ 1059) (hb : b ≤ 999) (h1 : e1 ≤ 1039) (h2 : e2 ≤ 1039) (hk : k < n) (hn : n ≤ 15) : (uXc (nI t) (nI b) (nI e1) (nI e2) k n ≤ 0) ↔ (uXm (nI t) (nI b) (nI e1) (nI e2) k n ≤ 0) := by
  have m1 := uMulB hb (show k ≤ 15 by omega)
  have m2 := uMulB m1 (show n - k ≤ 15 by omega)
  have m3 := uMulB (show 1000 * t + b * k * (n - k) ≤ 1000 * 1059 + 999 * 15 * 15 by omega) hn
  have m4 := uMulB h1 (show n - k ≤ 15 by omega)
  have m5 := uMulB h2 (show k ≤ 15 by omega)
  have eA : (1000 : Int32) * nI t + nI b * nI k * (nI n - nI k) = nI (1000 * t + b * k * (n - k)) := by
    rw [show (1000 : Int32) = nI 1000 from rfl, pk_sub (by omega), pk_mul, pk_mul, pk_mul, nI_add]
  have eB : nI e1 * (nI n - nI k) + nI e2 * nI k = nI (e1 * (n - k) + e2 * k) := by
    rw [pk_sub (by omega), pk_mul, pk_mul, nI_add]
  unfold uXc uXm
  rw [eA, eB]
  generalize hA1 : 1000 * t + b * k * (n - k) = A1 at m3 ⊢
  generalize hE1 : e1 * (n - k) + e2 * k = E1
  have hE2 : E1 ≤ 1039 * 15 + 1039 * 15 := by omega
  have hA2 : A1 ≤ 1000 * 1059 + 999 * 15 * 15 := by omega
  rw [show (1000 : Int32) = nI 1000 from rfl, pk_mul, pk_mul, uSubLe (by omega) (by omega), nI_l (by omega), nI_l (by omega), nI_l (by omega), show (1000 : Int64) = lN 1000 from rfl, lN_mul, lN_mul]
  by_cases h : 1000 * E1 < A1 * n
  · rw [if_pos (show lN (A1 * n) > lN (1000 * E1) from (lN_lt (by omega) (by omega)).mpr h)]
    constructor
    · intro q; omega
    · intro q; exact absurd q (by decide)
  · rw [if_neg (show ¬ lN (A1 * n) > lN (1000 * E1) from fun q => h ((lN_lt (by omega) (by omega)).mp q))]
    constructor
    · intro q
      by_cases h' : lN (A1 * n) = lN (1000 * E1)
      · rw [if_pos h']; decide
      · rw [if_neg h']; decide
    · intro q; omega
/-! the two lands -/
def uHW (h w hm wm : Nat → Int32) (W H : Nat) : Prop := ∀ i j, i < W → j < H → h (j * 16 + i) = hm (W * j + i) ∧ w (j * 16 + i) = wm (W * j + i) ∧ 0 ≤ (h (j * 16 + i)).toInt ∧ (h (j * 16 + i)).toInt ≤ 999
def uPo (f g cl lo hg : Nat → Int32) (n W H : Nat) : Prop := ∀ k, k < n → (f k).toInt < (W : Int) ∧ (g k).toInt < (H : Int) ∧ cl k = nI (uN (g k) * 16 + uN (f k)) ∧ (0 ≤ (lo k).toInt ∧ (lo k).toInt ≤ 40) ∧ (0 ≤ (hg k).toInt ∧ (hg k).toInt ≤ 40)
def uTg (t : Nat → Int32) : Prop := ∀ k, k < 4 → 0 ≤ (t k).toInt ∧ (t k).toInt ≤ 60
theorem uOfI {x : Int32} {b : Nat} (h0 : 0 ≤ x.toInt) (h1 : x.toInt ≤ (b : Int)) (hb : b + 1 < 2 ^ 31) : ∃ a : Nat, a ≤ b ∧ x = nI a := by
  obtain ⟨a, ha, e⟩ := uNat (x := x) (n := b + 1) h0 (by omega) (by omega)
  exact ⟨a, by omega, e⟩
theorem uNum {h w hm wm t1 t2 f g cl lo hg : Nat → Int32} {bd s : Int32} {W H n a b : Nat} (hW : W ≤ 16) (hH : H ≤ 16) (rw_ : uRg w 0 3) (rf : uRg f 0 15) (rg : uRg g 0 15) (r1 : uTg t1) (r2 : uTg t2) (hb0 : 0 ≤ bd.toInt) (hb1 : bd.toInt ≤ 999) (hh : uHW h w hm wm W H) (hp : uPo f g cl lo hg n W H) (ha : a < n) (hb : b < n) {k : Nat} (k1 : 1 ≤ k) (k2 : k < uSpn f g a b) : ∃ t y1 y2 bn : Nat, (t ≤ 1059 ∧ y1 ≤ 1039 ∧ y2 ≤ 1039 ∧ bn ≤ 999) ∧ bd = nI bn ∧ (uTp h w t1 t2 (uBw g a b k (uSpn f g a b) * 16 + uBw f a b k (uSpn f g a b)) s = nI t ∧ uTp hm wm t1 t2 (W * uBw g a b k (uSpn f g a b) + uBw f a b k (uSpn f g a b)) s = nI t) ∧ (uEy h lo hg (uN (cl a)) a s = nI y1 ∧ uEy hm lo hg (W * uN (g a) + uN (f a)) a s = nI y1) ∧ (uEy h lo hg (uN (cl b)) b s = nI y2 ∧ uEy hm lo hg (W * uN (g b) + uN (f b)) b s = nI y2) := by
  have hsp := uSp15 rf rg (a := a) (b := b)
  obtain ⟨pa, ha1, ea⟩ := uR15 rf a
  obtain ⟨pb, hb2, eb⟩ := uR15 rf b
  obtain ⟨qa, ha3, ea'⟩ := uR15 rg a
  obtain ⟨qb, hb4, eb'⟩ := uR15 rg b
  obtain ⟨la, la', la2, la3, la4⟩ := hp a ha
  obtain ⟨lb, lb', lb2, lb3, lb4⟩ := hp b hb
  rw [ea, nI_toInt (by omega)] at la
  rw [eb, nI_toInt (by omega)] at lb
  rw [ea', nI_toInt (by omega)] at la'
  rw [eb', nI_toInt (by omega)] at lb'
  have cX := uBtM (a := pa) (b := pb) (k := k) (n := uSpn f g a b) (w := W) (by omega) (by omega) (by omega) (by omega)
  have cY := uBtM (a := qa) (b := qb) (k := k) (n := uSpn f g a b) (w := H) (by omega) (by omega) (by omega) (by omega)
  have eX : uBw f a b k (uSpn f g a b) = uBt pa pb k (uSpn f g a b) := uBwE (by omega) (by omega) ea eb
  have eY : uBw g a b k (uSpn f g a b) = uBt qa qb k (uSpn f g a b) := uBwE (by omega) (by omega) ea' eb'
  obtain ⟨v1, v2, v3, v4⟩ := hh _ _ cX cY
  have nA : uN (cl a) = qa * 16 + pa := by rw [la2, uNe (by omega) ea, uNe (by omega) ea']; exact uNe (by omega) rfl
  have nB : uN (cl b) = qb * 16 + pb := by rw [lb2, uNe (by omega) eb, uNe (by omega) eb']; exact uNe (by omega) rfl
  obtain ⟨u1, u2, u3, u4⟩ := hh pa qa (by omega) (by omega)
  obtain ⟨x1, x2, x3, x4⟩ := hh pb qb (by omega) (by omega)
  obtain ⟨hv, hv1, ehv⟩ := uOfI (b := 999) v3 (by omega) (by omega)
  obtain ⟨hu, hu1, ehu⟩ := uOfI (b := 999) u3 (by omega) (by omega)
  obtain ⟨hx, hx1, ehx⟩ := uOfI (b := 999) x3 (by omega) (by omega)
  obtain ⟨bn, hbn, ebn⟩ := uOfI (b := 999) hb0 (by omega) (by omega)
  obtain ⟨wv, hwv, ewv⟩ := uRnat rw_ (uBt qa qb k (uSpn f g a b) * 16 + uBt pa pb k (uSpn f g a b)) (by decide)
  simp only [Int32.reduceToInt] at hwv
  obtain ⟨g1, g2⟩ := r1 wv (by omega)
  obtain ⟨g3, g4⟩ := r2 wv (by omega)
  obtain ⟨tv1, htv1, etv1⟩ := uOfI (b := 60) g1 (by omega) (by omega)
  obtain ⟨tv2, htv2, etv2⟩ := uOfI (b := 60) g3 (by omega) (by omega)
  obtain ⟨l1, hl1, el1⟩ := uOfI (b := 40) la3.1 (by omega) (by omega)
  obtain ⟨l2, hl2, el2⟩ := uOfI (b := 40) lb3.1 (by omega) (by omega)
  obtain ⟨l3, hl3, el3⟩ := uOfI (b := 40) la4.1 (by omega) (by omega)
  obtain ⟨l4, hl4, el4⟩ := uOfI (b := 40) lb4.1 (by omega) (by omega)
  -- the three numbers of this cell
  obtain ⟨t, ht, et, et'⟩ : ∃ t : Nat, t ≤ 1059 ∧ uTp h w t1 t2 (uBw g a b k (uSpn f g a b) * 16 + uBw f a b k (uSpn f g a b)) s = nI t ∧ uTp hm wm t1 t2 (W * uBw g a b k (uSpn f g a b) + uBw f a b k (uSpn f g a b)) s = nI t := by
    rw [eX, eY]
    by_cases hs : s = 0
    · refine ⟨hv + tv1, by omega, ?_, ?_⟩
      · rw [← uTp0 hs (by omega) ewv, ehv, etv1, nI_add]
      · rw [← uTp0 hs (show wv < 2 ^ 31 by omega) (v2.symm.trans ewv), ← v1, ehv, etv1, nI_add]
    · refine ⟨hv + tv2, by omega, ?_, ?_⟩
      · rw [← uTp1 hs (by omega) ewv, ehv, etv2, nI_add]
      · rw [← uTp1 hs (show wv < 2 ^ 31 by omega) (v2.symm.trans ewv), ← v1, ehv, etv2, nI_add]
  obtain ⟨y1, hy1, ey1, ey1'⟩ : ∃ y : Nat, y ≤ 1039 ∧ uEy h lo hg (uN (cl a)) a s = nI y ∧ uEy hm lo hg (W * uN (g a) + uN (f a)) a s = nI y := by
    rw [nA, uNe (by omega) ea, uNe (by omega) ea']
    by_cases hs : s = 0
    · refine ⟨hu + l3, by omega, ?_, ?_⟩
      · rw [← uEy0 hs, ehu, el3, nI_add]
      · rw [← uEy0 hs, ← u1, ehu, el3, nI_add]
    · refine ⟨hu + l1, by omega, ?_, ?_⟩
      · rw [← uEy1 hs, ehu, el1, nI_add]
      · rw [← uEy1 hs, ← u1, ehu, el1, nI_add]
  obtain ⟨y2, hy2, ey2, ey2'⟩ : ∃ y : Nat, y ≤ 1039 ∧ uEy h lo hg (uN (cl b)) b s = nI y ∧ uEy hm lo hg (W * uN (g b) + uN (f b)) b s = nI y := by
    rw [nB, uNe (by omega) eb, uNe (by omega) eb']
    by_cases hs : s = 0
    · refine ⟨hx + l4, by omega, ?_, ?_⟩
      · rw [← uEy0 hs, ehx, el4, nI_add]
      · rw [← uEy0 hs, ← x1, ehx, el4, nI_add]
    · refine ⟨hx + l2, by omega, ?_, ?_⟩
      · rw [← uEy1 hs, ehx, el2, nI_add]
      · rw [← uEy1 hs, ← x1, ehx, el2, nI_add]
  exact ⟨t, y1, y2, bn, ⟨ht, hy1, hy2, hbn⟩, ebn, ⟨et, et'⟩, ⟨ey1, ey1'⟩, ey2, ey2'⟩
theorem uFE {h w hm wm t1 t2 f g cl lo hg : Nat → Int32} {bd s : Int32} {W H n a b : Nat} (hW : W ≤ 16) (hH : H ≤ 16) (rw_ : uRg w 0 3) (rf : uRg f 0 15) (rg : uRg g 0 15) (r1 : uTg t1) (r2 : uTg t2) (hb0 : 0 ≤ bd.toInt) (hb1 : bd.toInt ≤ 999) (hh : uHW h w hm wm W H) (hp : uPo f g cl lo hg n W H) (ha : a < n) (hb : b < n) : uFc h w t1 t2 bd f g cl lo hg a b s = uFm hm wm t1 t2 bd f g lo hg W a b s := by
  unfold uFc uFm
  have hsp := uSp15 rf rg (a := a) (b := b)
  by_cases h0 : uSpn f g a b = 0
  · rw [show uSpn f g a b - 1 = 0 by omega, uSk0, uSk0]
  refine uSkC ?_ _ (by omega)
  intro k k1 k2
  obtain ⟨t, y1, y2, bn, ⟨ht, hy1, hy2, hbn⟩, ebn, ⟨et, et'⟩, ⟨ey1, ey1'⟩, ey2, ey2'⟩ := uNum (s := s) hW hH rw_ rf rg r1 r2 hb0 hb1 hh hp ha hb k1 k2
  unfold uPc uPm
  rw [et, et', ey1, ey1', ey2, ey2', ebn]
  exact not_congr (uXE ht hbn hy1 hy2 k2 hsp)
def uTm (x y : Int32) : Prop := (0 ≤ x.toInt ∧ x.toInt ≤ 11) ∧ (0 ≤ y.toInt ∧ y.toInt ≤ 1)
theorem uIteC {α : Type} {P Q : Prop} {a b : α} (h : P ↔ Q) : uIte P a b = uIte Q a b := by
  by_cases q : P
  · rw [uItP q, uItP (h.mp q)]
  · rw [uItN q, uItN (fun r => q (h.mpr r))]
theorem uIdx {A i j i' j' : Nat} (hi : i < A) (hi' : i' < A) (e : j * A + i = j' * A + i') : i = i' ∧ j = j' := by
  have hA : 0 < A := by omega
  have e1 : (j * A + i) % A = i := by rw [Nat.add_comm, Nat.add_mul_mod_self_right, Nat.mod_eq_of_lt hi]
  have e2 : (j' * A + i') % A = i' := by rw [Nat.add_comm, Nat.add_mul_mod_self_right, Nat.mod_eq_of_lt hi']
  have e3 : i = i' := by rw [← e1, ← e2, e]
  refine ⟨e3, ?_⟩
  have e4 : j * A = j' * A := by omega
  exact Nat.eq_of_mul_eq_mul_right hA e4
/-- inside the rectangle from (a0, b0) to the columns ≤ a1, rows below y, and of row y the columns below x -/
def uLi (A : Nat) (f f' : Nat → Int32) (v : Int32) (a0 a1 b0 y x : Nat) : Prop := ∀ i j, i < A → f' (j * A + i) = uIte (a0 ≤ i ∧ i ≤ a1 ∧ b0 ≤ j ∧ (j < y ∨ (j = y ∧ i < x))) v (f (j * A + i))
theorem uLi0 {A : Nat} {f : Nat → Int32} {v : Int32} {a0 a1 b0 : Nat} : uLi A f f v a0 a1 b0 b0 0 := by
  intro i j _
  rw [uItN (by omega)]
theorem uLiI {A : Nat} {f f' : Nat → Int32} {v : Int32} {a0 a1 b0 y : Nat} (h : uLi A f f' v a0 a1 b0 y 0) : uLi A f f' v a0 a1 b0 y a0 := by
  intro i j hi
  rw [h i j hi]
  exact uIteC (by omega)
theorem uLiS {A k : Nat} {f f' : Nat → Int32} {v : Int32} {a0 a1 b0 y x : Nat} (h : uLi A f f' v a0 a1 b0 y x) (hk : k = y * A + x) (hx : x < A) (h1 : a0 ≤ x) (h2 : x ≤ a1) (h3 : b0 ≤ y) : uLi A f (upd f' k v) v a0 a1 b0 y (x + 1) := by
  intro i j hi
  by_cases e : j * A + i = k
  · obtain ⟨e1, e2⟩ := uIdx hi hx (e.trans hk)
    rw [e, pk_us, uItP (by omega)]
  · rw [pk_un e, h i j hi]
    refine uIteC ?_
    have ne : ¬ (i = x ∧ j = y) := fun q => e (by rw [q.1, q.2]; exact hk.symm)
    omega
theorem uLiE {A : Nat} {f f' : Nat → Int32} {v : Int32} {a0 a1 b0 y x : Nat} (h : uLi A f f' v a0 a1 b0 y x) (hx : a1 < x) : uLi A f f' v a0 a1 b0 (y + 1) 0 := by
  intro i j hi
  rw [h i j hi]
  exact uIteC (by omega)
/-- all the rectangle, if D -/
def uLa (A : Nat) (f f' : Nat → Int32) (D : Prop) (x0 y0 x1 y1 v : Int32) : Prop := (¬ D → f' = f) ∧ (D → ∀ i j, i < A → f' (j * A + i) = uIte (x0.toInt ≤ (i : Int) ∧ (i : Int) ≤ x1.toInt ∧ y0.toInt ≤ (j : Int) ∧ (j : Int) ≤ y1.toInt) v (f (j * A + i)))
theorem uLaN {A : Nat} {f : Nat → Int32} {D : Prop} {x0 y0 x1 y1 v : Int32} (h : ¬ D) : uLa A f f D x0 y0 x1 y1 v := ⟨fun _ => rfl, fun q => absurd q h⟩
theorem uLaP {A : Nat} {f f' : Nat → Int32} {D : Prop} {x0 y0 x1 y1 v : Int32} {a0 b0 a1 b1 y : Nat} (h : D) (q : uLi A f f' v a0 a1 b0 y 0) (hy : y = b1 + 1) (e0 : x0 = nI a0) (e1 : y0 = nI b0) (e2 : x1 = nI a1) (e3 : y1 = nI b1) (l0 : a0 < 2 ^ 31) (l1 : b0 < 2 ^ 31) (l2 : a1 < 2 ^ 31) (l3 : b1 < 2 ^ 31) : uLa A f f' D x0 y0 x1 y1 v := by
  refine ⟨fun r => absurd h r, fun _ i j hi => ?_⟩
  rw [q i j hi, e0, e1, e2, e3, nI_toInt l0, nI_toInt l1, nI_toInt l2, nI_toInt l3]
  exact uIteC (by omega)
theorem uHWg {h w h' w' hm wm hm' wm' : Nat → Int32} {W Wm H : Nat} {D D' : Prop} {x0 y0 x1 y1 v u : Int32} (hW : W ≤ 16) (eWm : W = Wm) (q : uHW h w hm wm W H) (hD : D ↔ D') (hv : D → 0 ≤ v.toInt ∧ v.toInt ≤ 999) (c1 : uLa 16 h h' D x0 y0 x1 y1 v) (c2 : uLa 16 w w' D x0 y0 x1 y1 u) (m1 : uLa Wm hm hm' D' x0 y0 x1 y1 v) (m2 : uLa Wm wm wm' D' x0 y0 x1 y1 u) : uHW h' w' hm' wm' W H := by
  subst eWm
  intro i j hi hj
  obtain ⟨q1, q2, q3, q4⟩ := q i j hi hj
  by_cases d : D
  · have k1 := c1.2 d i j (by omega)
    have k2 := c2.2 d i j (by omega)
    have k3 := m1.2 (hD.mp d) i j hi
    have k4 := m2.2 (hD.mp d) i j hi
    rw [Nat.mul_comm j W] at k3 k4
    obtain ⟨v1, v2⟩ := hv d
    rw [k1, k2, k3, k4, q1, q2]
    refine ⟨rfl, rfl, ?_⟩
    rw [← q1]
    by_cases r : x0.toInt ≤ (i : Int) ∧ (i : Int) ≤ x1.toInt ∧ y0.toInt ≤ (j : Int) ∧ (j : Int) ≤ y1.toInt
    · rw [uItP r]; exact ⟨v1, v2⟩
    · rw [uItN r]; exact ⟨q3, q4⟩
  · rw [c1.1 d, c2.1 d, m1.1 (fun r => d (hD.mpr r)), m2.1 (fun r => d (hD.mpr r))]
    exact ⟨q1, q2, q3, q4⟩
/-- all 0, if D -/
def uLz (f f' : Nat → Int32) (D : Prop) : Prop := (¬ D → f' = f) ∧ (D → ∀ k, k < 256 → f' k = 0)
theorem uHWl {h w h' w' hm wm hm' wm' : Nat → Int32} {W H W' H' : Nat} {D : Prop} (q : uHW h w hm wm W H) (hW : W' ≤ 16) (hH : H' ≤ 16) (eW : ¬ D → W' = W) (eH : ¬ D → H' = H) (c1 : uLz h h' D) (c2 : uLz w w' D) (m1 : uLz hm hm' D) (m2 : uLz wm wm' D) : uHW h' w' hm' wm' W' H' := by
  intro i j hi hj
  by_cases d : D
  · have b1 : j * 16 + i < 256 := by omega
    have b2 : W' * j + i < 256 := by
      have := Nat.mul_le_mul hW (show j ≤ 15 by omega)
      omega
    rw [c1.2 d _ b1, c2.2 d _ b1, m1.2 d _ b2, m2.2 d _ b2]
    exact ⟨rfl, rfl, by decide, by decide⟩
  · rw [c1.1 d, c2.1 d, m1.1 d, m2.1 d, eW d]
    rw [eW d] at hi
    rw [eH d] at hj
    exact q i j hi hj
theorem uPsl {f g cl lo hg : Nat → Int32} {n W H n' W' H' : Nat} {D : Prop} (q : uPo f g cl lo hg n W H) (e1 : D → n' = 0) (e2 : ¬ D → n' = n ∧ W' = W ∧ H' = H) : uPo f g cl lo hg n' W' H' := by
  by_cases d : D
  · intro k hk; rw [e1 d] at hk; exact absurd hk (Nat.not_lt_zero k)
  · obtain ⟨a, b, c⟩ := e2 d
    rw [a, b, c]; exact q
theorem uPsp {f g cl lo hg f' g' cl' lo' hg' : Nat → Int32} {n n' W H : Nat} {D : Prop} {x y a b : Int32} (q : uPo f g cl lo hg n W H) (hD : D → (0 ≤ x.toInt ∧ x.toInt < (W : Int)) ∧ (0 ≤ y.toInt ∧ y.toInt < (H : Int)) ∧ 1 ≤ a.toInt ∧ a.toInt ≤ b.toInt ∧ b.toInt ≤ 40) (en : n' = uIte D (n + 1) n) (ef : f' = uIte D (upd f n x) f) (eg : g' = uIte D (upd g n y) g) (ec : cl' = uIte D (upd cl n (nI (uN y * 16 + uN x))) cl) (el : lo' = uIte D (upd lo n a) lo) (eh : hg' = uIte D (upd hg n b) hg) : uPo f' g' cl' lo' hg' n' W H := by
  by_cases d : D
  · obtain ⟨⟨d1, d2⟩, ⟨d3, d4⟩, d5, d6, d7⟩ := hD d
    rw [uItP d] at en ef eg ec el eh
    subst en ef eg ec el eh
    intro k hk
    by_cases e : k = n
    · subst e
      rw [pk_us, pk_us, pk_us, pk_us, pk_us]
      exact ⟨d2, d4, rfl, ⟨by omega, by omega⟩, by omega, d7⟩
    · rw [pk_un e, pk_un e, pk_un e, pk_un e, pk_un e]
      exact q k (by omega)
  · rw [uItN d] at en ef eg ec el eh
    subst en ef eg ec el eh
    exact q
theorem uTgu {t t' : Nat → Int32} {D : Prop} {k : Nat} {v : Int32} (q : uTg t) (hv : D → 0 ≤ v.toInt ∧ v.toInt ≤ 60) (e : t' = uIte D (upd t k v) t) : uTg t' := by
  by_cases d : D
  · rw [uItP d] at e
    subst e
    intro j hj
    by_cases h : j = k
    · subst h; rw [pk_us]; exact hv d
    · rw [pk_un h]; exact q j hj
  · rw [uItN d] at e
    subst e
    exact q
theorem uLzN {f : Nat → Int32} {D : Prop} (h : ¬ D) : uLz f f D := ⟨fun _ => rfl, fun q => absurd q h⟩
theorem uLzP {f f' : Nat → Int32} {D : Prop} (h : D) (q : uFl 256 f' 0) : uLz f f' D := ⟨fun r => absurd h r, fun _ => q⟩
theorem uIt01 {P : Prop} : uIte P (1 : Int32) 0 = 0 ∨ uIte P (1 : Int32) 0 = 1 := by
  by_cases h : P
  · exact Or.inr (uItP h)
  · exact Or.inl (uItN h)
def uDT (x y z : Int32) : Prop := (1 ≤ x.toInt ∧ x.toInt ≤ 3) ∧ 0 ≤ y.toInt ∧ y.toInt ≤ z.toInt ∧ z.toInt ≤ 60
def uDB (x : Int32) : Prop := 0 ≤ x.toInt ∧ x.toInt ≤ 999
def uDH (x y a b : Int32) : Prop := ((0 ≤ x.toInt ∧ x.toInt ≤ 11) ∧ (0 ≤ y.toInt ∧ y.toInt ≤ 1)) ∧ 0 ≤ a.toInt ∧ a.toInt ≤ b.toInt ∧ b.toInt ≤ 30
theorem uBdu {b b' x : Int32} (q : 0 ≤ b.toInt ∧ b.toInt ≤ 999) (e : b' = uIte (uDB x) x b) : 0 ≤ b'.toInt ∧ b'.toInt ≤ 999 := by
  by_cases d : uDB x
  · rw [e, uItP d]; exact d
  · rw [e, uItN d]; exact q
theorem uZ0 : 0 ≤ (0 : Int32).toInt ∧ (0 : Int32).toInt ≤ 60 ∧ (0 : Int32).toInt ≤ 999 := by decide
theorem uHW0 : uHW (fun _ => 0) (fun _ => 0) (fun _ => 0) (fun _ => 0) 4 4 := fun _ _ _ _ => ⟨rfl, rfl, uZ0.1, uZ0.2.2⟩
theorem uTg0 : uTg (fun _ => 0) := fun _ _ => ⟨uZ0.1, uZ0.2.1⟩
/-! the least function above a start that grows along a relation, in 24 rounds -/
def uMon (R : Nat → Nat → Prop) (h : Nat → Nat) : Prop := ∀ u v, R u v → h u ≤ h v
def uAbv (a h : Nat → Nat) : Prop := ∀ v, v < 24 → a v ≤ h v
def uLea (R : Nat → Nat → Prop) (a F : Nat → Nat) : Prop := uAbv a F ∧ uMon R F ∧ ∀ H, uAbv a H → uMon R H → uAbv F H
theorem uMinEx {P : Nat → Prop} (m : Nat) : P m → ∃ k, P k ∧ ∀ j, P j → k ≤ j := by
  induction m using Nat.strongRecOn with
  | ind m ih =>
    intro hm
    by_cases h : ∃ j, j < m ∧ P j
    · obtain ⟨j, hj, pj⟩ := h
      exact ih j hj pj
    · refine ⟨m, hm, fun j pj => ?_⟩
      by_cases q : m ≤ j
      · exact q
      · exact absurd ⟨j, by omega, pj⟩ h
theorem uLeaEx (R : Nat → Nat → Prop) (a : Nat → Nat) {B : Nat} (h0 : ∀ v, v < 24 → a v ≤ B) : ∃ F, uLea R a F := by
  have key : ∀ v, ∃ k, (∃ H, (uAbv a H ∧ uMon R H) ∧ H v = k) ∧ ∀ j, (∃ H, (uAbv a H ∧ uMon R H) ∧ H v = j) → k ≤ j := fun v =>
    uMinEx (P := fun k => ∃ H, (uAbv a H ∧ uMon R H) ∧ H v = k) B ⟨fun _ => B, ⟨h0, fun _ _ _ => Nat.le_refl _⟩, rfl⟩
  refine ⟨fun v => Classical.choose (key v), ?_, ?_, ?_⟩
  · intro v hv
    obtain ⟨⟨H, ⟨h1, h2⟩, e⟩, -⟩ := Classical.choose_spec (key v)
    have := h1 v hv
    show a v ≤ Classical.choose (key v)
    omega
  · intro u v r
    obtain ⟨⟨H, ⟨h1, h2⟩, e⟩, -⟩ := Classical.choose_spec (key v)
    have q := (Classical.choose_spec (key u)).2 (H u) ⟨H, ⟨h1, h2⟩, rfl⟩
    have := h2 u v r
    show Classical.choose (key u) ≤ Classical.choose (key v)
    omega
  · intro H h1 h2 v hv
    exact (Classical.choose_spec (key v)).2 (H v) ⟨H, ⟨h1, h2⟩, rfl⟩
theorem uLeaU {R : Nat → Nat → Prop} {a F G : Nat → Nat} (h : uLea R a F) (q : uLea R a G) : ∀ v, v < 24 → F v = G v := fun v hv => Nat.le_antisymm (h.2.2 G q.1 q.2.1 v hv) (q.2.2 F h.1 h.2.1 v hv)
def uCnt (l F : Nat → Nat) : Nat → Nat
  | 0 => 0
  | n + 1 => uCnt l F n + (if l n < F n then 1 else 0)
theorem uCntM {l l' F : Nat → Nat} : ∀ n, (∀ v, v < n → l v ≤ l' v) → uCnt l' F n ≤ uCnt l F n ∧ (uCnt l' F n = uCnt l F n → ∀ v, v < n → l v < F v → l' v < F v)
  | 0, _ => ⟨Nat.le_refl _, fun _ v hv => absurd hv (Nat.not_lt_zero v)⟩
  | n + 1, h => by
    obtain ⟨i1, i2⟩ := uCntM (l := l) (l' := l') (F := F) n (fun v hv => h v (by omega))
    have hn := h n (by omega)
    show uCnt l' F n + (if l' n < F n then 1 else 0) ≤ uCnt l F n + (if l n < F n then 1 else 0) ∧ (uCnt l' F n + (if l' n < F n then 1 else 0) = uCnt l F n + (if l n < F n then 1 else 0) → ∀ v, v < n + 1 → l v < F v → l' v < F v)
    by_cases c' : l' n < F n
    · rw [if_pos c', if_pos (show l n < F n by omega)]
      refine ⟨by omega, fun e v hv q => ?_⟩
      by_cases ev : v = n
      · rw [ev]; exact c'
      · exact i2 (by omega) v (by omega) q
    · rw [if_neg c']
      by_cases c : l n < F n
      · rw [if_pos c]
        exact ⟨by omega, fun e => absurd e (by omega)⟩
      · rw [if_neg c]
        refine ⟨by omega, fun e v hv q => ?_⟩
        by_cases ev : v = n
        · rw [ev] at q; exact absurd q c
        · exact i2 (by omega) v (by omega) q
theorem uCntB {l F : Nat → Nat} : ∀ n, uCnt l F n ≤ n
  | 0 => Nat.le_refl _
  | n + 1 => by
    have := uCntB (l := l) (F := F) n
    show uCnt l F n + (if l n < F n then 1 else 0) ≤ n + 1
    split <;> omega
theorem uCnt0 {l F : Nat → Nat} : ∀ n, uCnt l F n = 0 → ∀ v, v < n → ¬ l v < F v
  | 0, _ => fun v hv => absurd hv (Nat.not_lt_zero v)
  | n + 1, h => by
    have h : uCnt l F n + (if l n < F n then 1 else 0) = 0 := h
    intro v hv q
    by_cases c : l n < F n
    · rw [if_pos c] at h; omega
    · rw [if_neg c] at h
      by_cases ev : v = n
      · rw [ev] at q; exact c q
      · exact uCnt0 n (by omega) v (by omega) q
theorem uRound {R : Nat → Nat → Prop} {a F l l' : Nat → Nat} (hR : ∀ u v, R u v → u < 24 ∧ v < 24) (hF : uLea R a F) (h1 : uAbv a l) (h2 : uAbv l l') (h3 : uAbv l' F) (hp : ∀ u v, R u v → l u ≤ l' v) : uCnt l' F 24 < uCnt l F 24 ∨ ∀ v, v < 24 → l' v = F v := by
  obtain ⟨m1, m2⟩ := uCntM (l := l) (l' := l') (F := F) 24 h2
  by_cases hc : uCnt l' F 24 < uCnt l F 24
  · exact Or.inl hc
  · right
    have same := m2 (by omega)
    have lF : ∀ v, v < 24 → l v ≤ F v := fun v hv => Nat.le_trans (h2 v hv) (h3 v hv)
    have big : uAbv F (fun v => if l v < F v then F v - 1 else F v) := by
      refine hF.2.2 _ ?_ ?_
      · intro v hv
        show a v ≤ (if l v < F v then F v - 1 else F v)
        have q1 := h1 v hv
        have q2 := lF v hv
        split <;> omega
      · intro u v r
        obtain ⟨hu, hv⟩ := hR u v r
        have q1 := hF.2.1 u v r
        have q2 := hp u v r
        have q3 := lF u hu
        have q4 := same v hv
        show (if l u < F u then F u - 1 else F u) ≤ (if l v < F v then F v - 1 else F v)
        by_cases c1 : l u < F u
        · rw [if_pos c1]
          by_cases c2 : l v < F v
          · rw [if_pos c2]; omega
          · rw [if_neg c2]; omega
        · rw [if_neg c1]
          by_cases c2 : l v < F v
          · have := q4 c2
            rw [if_pos c2]; omega
          · rw [if_neg c2]; exact q1
    intro v hv
    have b := big v hv
    have b : F v ≤ (if l v < F v then F v - 1 else F v) := b
    have q2 := lF v hv
    have q3 := h2 v hv
    have q4 := h3 v hv
    by_cases c : l v < F v
    · rw [if_pos c] at b; omega
    · omega
/-! runs of 'u not later than v' -/
def uIvl (R : Nat → Nat → Prop) (a : Nat → Nat) (N : Nat) (l : Nat → Nat) : Prop := (∀ v, v < N → a v ≤ l v) ∧ ∀ H, uAbv a H → uMon R H → ∀ v, v < N → l v ≤ H v
def uNl (f : Nat → Int32) (v : Nat) : Nat := uN (f v)
def uNg (g : Nat → Int32) (v : Nat) : Nat := 500 - uN (g v)
def uOp (R : Nat → Nat → Prop) (u v : Nat) : Prop := R v u
def uOkv (mv : Int32) (V : Nat → Nat → Prop) (f g : Nat → Int32) : Prop := mv = 1 ∨ ∀ u v, V u v → uNl f u ≤ uNl f v ∧ uNg g v ≤ uNg g u
/-- what a run over the pairs V does -/
def uRun (V : Nat → Nat → Prop) (f g f' g' : Nat → Int32) (mv mv' : Int32) : Prop :=
  (∀ R a N, (∀ u v, V u v → R u v ∧ u < N ∧ v < N) → N ≤ 24 → uIvl R a N (uNl f) → uIvl R a N (uNl f'))
  ∧ (∀ R a N, (∀ u v, V u v → R u v ∧ u < N ∧ v < N) → N ≤ 24 → uIvl (uOp R) a N (uNg g) → uIvl (uOp R) a N (uNg g'))
  ∧ (∀ V0, uOkv mv V0 f g → uOkv mv' (fun u v => V0 u v ∨ V u v) f' g')
  ∧ (∀ w, uNl f w ≤ uNl f' w) ∧ (∀ w, uNg g w ≤ uNg g' w)
  ∧ (∀ u v, V u v → uNl f u ≤ uNl f' v) ∧ (∀ u v, V u v → uNg g v ≤ uNg g' u)
theorem uRun0 {f g : Nat → Int32} {mv : Int32} : uRun (fun _ _ => False) f g f g mv mv :=
  ⟨fun _ _ _ _ _ h => h, fun _ _ _ _ _ h => h, fun V0 h => h.imp id (fun q u v r => r.elim (q u v) False.elim), fun _ => Nat.le_refl _, fun _ => Nat.le_refl _, fun _ _ r => r.elim, fun _ _ r => r.elim⟩
theorem uRunT {V V' : Nat → Nat → Prop} {f g f' g' f2 g2 : Nat → Int32} {m m' m2 : Int32} (h : uRun V f g f' g' m m') (q : uRun V' f' g' f2 g2 m' m2) : uRun (fun u v => V u v ∨ V' u v) f g f2 g2 m m2 := by
  obtain ⟨h1, h2, h3, h4, h5, h6, h7⟩ := h
  obtain ⟨q1, q2, q3, q4, q5, q6, q7⟩ := q
  refine ⟨fun R a N c hN i => q1 R a N (fun u v r => c u v (Or.inr r)) hN (h1 R a N (fun u v r => c u v (Or.inl r)) hN i), fun R a N c hN i => q2 R a N (fun u v r => c u v (Or.inr r)) hN (h2 R a N (fun u v r => c u v (Or.inl r)) hN i), ?_, fun w => Nat.le_trans (h4 w) (q4 w), fun w => Nat.le_trans (h5 w) (q5 w), ?_, ?_⟩
  · intro V0 i
    refine (q3 _ (h3 V0 i)).imp id (fun k u v r => k u v ?_)
    rcases r with r | r | r
    · exact Or.inl (Or.inl r)
    · exact Or.inl (Or.inr r)
    · exact Or.inr r
  · intro u v r
    rcases r with r | r
    · exact Nat.le_trans (h6 u v r) (q4 v)
    · exact Nat.le_trans (h4 u) (q6 u v r)
  · intro u v r
    rcases r with r | r
    · exact Nat.le_trans (h7 u v r) (q5 u)
    · exact Nat.le_trans (h5 v) (q7 u v r)
theorem uRunW {V V' : Nat → Nat → Prop} {f g f' g' : Nat → Int32} {m m' : Int32} (h : uRun V f g f' g' m m') (w : ∀ u v, V u v ↔ V' u v) : uRun V' f g f' g' m m' := by
  have e : V = V' := funext (fun u => funext (fun v => propext (w u v)))
  rw [← e]; exact h
theorem uN500 {f : Nat → Int32} (h : uRg f 0 500) (v : Nat) : ∃ a : Nat, a ≤ 500 ∧ f v = nI a := by
  obtain ⟨a, ha, e⟩ := uRnat h v (by decide)
  simp only [Int32.reduceToInt] at ha
  exact ⟨a, by omega, e⟩
def uR24 (f : Nat → Int32) : Prop := ∀ k, k < 24 → ∃ a : Nat, a ≤ 500 ∧ f k = nI a
theorem uR24g {f : Nat → Int32} (h : uRg f 0 500) : uR24 f := fun k _ => uN500 h k
theorem uR24f {f : Nat → Int32} {a : Nat} (h : uFl 24 f (nI a)) (ha : a ≤ 500) : uR24 f := fun k hk => ⟨a, ha, h k hk⟩
theorem uR24u {f : Nat → Int32} {i : Nat} {x : Int32} (h : uR24 f) (q : ∃ a : Nat, a ≤ 500 ∧ x = nI a) : uR24 (upd f i x) := by
  intro k hk
  by_cases c : k = i
  · rw [c, pk_us]; exact q
  · rw [pk_un c]; exact h k hk
/-- one pair -/
theorem uRun1 {f g f' g' : Nat → Int32} {u v : Nat} {mv mv' : Int32} (rf : uR24 f) (rg : uR24 g) (hu : u < 24) (hv : v < 24) (ef : ∀ w, f' w = uIte (w = v ∧ f v < f u) (f u) (f w)) (eg : ∀ w, g' w = uIte (w = u ∧ g v < g u) (g v) (g w)) (em : mv' = uIte (f v < f u ∨ g v < g u) 1 mv) : uRun (fun x y => x = u ∧ y = v) f g f' g' mv mv' := by
  obtain ⟨fu, hfu, efu⟩ := rf u hu
  obtain ⟨fv, hfv, efv⟩ := rf v hv
  obtain ⟨gu, hgu, egu⟩ := rg u hu
  obtain ⟨gv, hgv, egv⟩ := rg v hv
  have cF : f v < f u ↔ fv < fu := by rw [efu, efv]; exact nI_ltI (by omega) (by omega)
  have cG : g v < g u ↔ gv < gu := by rw [egu, egv]; exact nI_ltI (by omega) (by omega)
  have nfu : uNl f u = fu := uNe (by omega) efu
  have nfv : uNl f v = fv := uNe (by omega) efv
  have ngu : uNg g u = 500 - gu := by show 500 - uN (g u) = _; rw [uNe (by omega) egu]
  have ngv : uNg g v = 500 - gv := by show 500 - uN (g v) = _; rw [uNe (by omega) egv]
  have lF : ∀ w, uNl f' w = uNl f w ∨ (w = v ∧ fv < fu ∧ uNl f' w = fu) := by
    intro w
    by_cases c : w = v ∧ f v < f u
    · right; refine ⟨c.1, cF.mp c.2, ?_⟩
      show uN (f' w) = fu
      rw [ef w, uItP c]; exact nfu
    · left; show uN (f' w) = uN (f w)
      rw [ef w, uItN c]
  have lG : ∀ w, uNg g' w = uNg g w ∨ (w = u ∧ gv < gu ∧ uNg g' w = 500 - gv) := by
    intro w
    by_cases c : w = u ∧ g v < g u
    · right; refine ⟨c.1, cG.mp c.2, ?_⟩
      show 500 - uN (g' w) = 500 - gv
      rw [eg w, uItP c, uNe (by omega) egv]
    · left; show 500 - uN (g' w) = 500 - uN (g w)
      rw [eg w, uItN c]
  have fV : uNl f u ≤ uNl f' v := by
    rcases lF v with k | ⟨-, k1, k2⟩
    · by_cases c : fv < fu
      · have e2 : uNl f' v = fu := by
          show uN (f' v) = fu
          rw [ef v, uItP ⟨rfl, cF.mpr c⟩]; exact nfu
        omega
      · omega
    · omega
  have gU : uNg g v ≤ uNg g' u := by
    rcases lG u with k | ⟨-, k1, k2⟩
    · by_cases c : gv < gu
      · have e2 : uNg g' u = 500 - gv := by
          show 500 - uN (g' u) = 500 - gv
          rw [eg u, uItP ⟨rfl, cG.mpr c⟩, uNe (by omega) egv]
        omega
      · omega
    · omega
  have mF : ∀ w, uNl f w ≤ uNl f' w := by
    intro w
    rcases lF w with k | ⟨k0, k1, k2⟩
    · omega
    · rw [k0] at k2 ⊢; omega
  have mG : ∀ w, uNg g w ≤ uNg g' w := by
    intro w
    rcases lG w with k | ⟨k0, k1, k2⟩
    · omega
    · rw [k0] at k2 ⊢; omega
  refine ⟨?_, ?_, ?_, mF, mG, ?_, ?_⟩
  · intro R a N c hN i
    obtain ⟨r, hu, hv⟩ := c u v ⟨rfl, rfl⟩
    refine ⟨fun w hw => Nat.le_trans (i.1 w hw) (mF w), fun H h1 h2 w hw => ?_⟩
    rcases lF w with k | ⟨k0, k1, k2⟩
    · rw [k]; exact i.2 H h1 h2 w hw
    · have a1 := i.2 H h1 h2 u hu
      have a2 := h2 u v r
      rw [k2, k0]; omega
  · intro R a N c hN i
    obtain ⟨r, hu, hv⟩ := c u v ⟨rfl, rfl⟩
    refine ⟨fun w hw => Nat.le_trans (i.1 w hw) (mG w), fun H h1 h2 w hw => ?_⟩
    rcases lG w with k | ⟨k0, k1, k2⟩
    · rw [k]; exact i.2 H h1 h2 w hw
    · have a1 := i.2 H h1 h2 v hv
      have a2 := h2 v u r
      rw [k2, k0]; omega
  · intro V0 i
    by_cases c : f v < f u ∨ g v < g u
    · left; rw [em, uItP c]
    · have n1 : ¬ fv < fu := fun k => c (Or.inl (cF.mpr k))
      have n2 : ¬ gv < gu := fun k => c (Or.inr (cG.mpr k))
      rw [em, uItN c]
      rcases i with i | i
      · exact Or.inl i
      · right
        have eF : ∀ w, uNl f' w = uNl f w := fun w => (lF w).elim id (fun k => absurd k.2.1 n1)
        have eG : ∀ w, uNg g' w = uNg g w := fun w => (lG w).elim id (fun k => absurd k.2.1 n2)
        intro x y r
        rw [eF, eF, eG, eG]
        rcases r with r | ⟨r1, r2⟩
        · exact i x y r
        · rw [r1, r2, nfu, nfv, ngu, ngv]; omega
  · intro x y r
    rw [r.1, r.2]; exact fV
  · intro x y r
    rw [r.1, r.2]; exact gU
/-! the pairs that notes make, the notes that are struck, the bounds -/
def uRn (s a b st : Nat → Int32) (k u v : Nat) : Prop := st k = 0 ∧ ((s k = 2 ∧ u = 2 * uN (b k) + 1 ∧ v = 2 * uN (a k)) ∨ (s k = 3 ∧ ((u = 2 * uN (a k) ∧ v = 2 * uN (b k) + 1) ∨ (u = 2 * uN (b k) ∧ v = 2 * uN (a k) + 1))))
def uRel (s a b st : Nat → Int32) (P n : Nat) (u v : Nat) : Prop := (∃ p, p < P ∧ u = 2 * p ∧ v = 2 * p + 1) ∨ ∃ k, k < n ∧ uRn s a b st k u v
theorem uRel0 {s a b st : Nat → Int32} : ∀ u v, False ↔ uRel s a b st 0 0 u v := by
  intro u v
  constructor
  · exact False.elim
  · rintro (⟨p, hp, -⟩ | ⟨k, hk, -⟩)
    · exact Nat.not_lt_zero _ hp
    · exact Nat.not_lt_zero _ hk
theorem uRelP {s a b st : Nat → Int32} {P n : Nat} : ∀ u v, (uRel s a b st P n u v ∨ (u = 2 * P ∧ v = 2 * P + 1)) ↔ uRel s a b st (P + 1) n u v := by
  intro u v
  constructor
  · rintro ((⟨p, hp, e⟩ | k) | e)
    · exact Or.inl ⟨p, by omega, e⟩
    · exact Or.inr k
    · exact Or.inl ⟨P, by omega, e⟩
  · rintro (⟨p, hp, e⟩ | k)
    · by_cases h : p = P
      · subst h; exact Or.inr e
      · exact Or.inl (Or.inl ⟨p, by omega, e⟩)
    · exact Or.inl (Or.inr k)
theorem uRelK {s a b st : Nat → Int32} {P n u v : Nat} : uRel s a b st P (n + 1) u v ↔ uRel s a b st P n u v ∨ uRn s a b st n u v := by
  constructor
  · rintro (p | ⟨k, hk, r⟩)
    · exact Or.inl (Or.inl p)
    · by_cases h : k = n
      · subst h; exact Or.inr r
      · exact Or.inl (Or.inr ⟨k, by omega, r⟩)
  · rintro ((p | ⟨k, hk, r⟩) | r)
    · exact Or.inl p
    · exact Or.inr ⟨k, by omega, r⟩
    · exact Or.inr ⟨n, by omega, r⟩
theorem uRel2 {s a b st : Nat → Int32} {P n x y : Nat} (h0 : st n = 0) (h2 : s n = 2) (ea : uN (a n) = x) (eb : uN (b n) = y) : ∀ u v, (uRel s a b st P n u v ∨ (u = 2 * y + 1 ∧ v = 2 * x)) ↔ uRel s a b st P (n + 1) u v := by
  intro u v
  rw [uRelK]
  refine or_congr Iff.rfl ?_
  unfold uRn
  rw [ea, eb]
  constructor
  · intro e; exact ⟨h0, Or.inl ⟨h2, e⟩⟩
  · rintro ⟨-, ⟨-, e⟩ | ⟨h3, -⟩⟩
    · exact e
    · rw [h2] at h3; exact absurd h3 (by decide)
theorem uRel3 {s a b st : Nat → Int32} {P n x y : Nat} (h0 : st n = 0) (h3 : s n = 3) (ea : uN (a n) = x) (eb : uN (b n) = y) : ∀ u v, ((uRel s a b st P n u v ∨ (u = 2 * x ∧ v = 2 * y + 1)) ∨ (u = 2 * y ∧ v = 2 * x + 1)) ↔ uRel s a b st P (n + 1) u v := by
  intro u v
  rw [uRelK, or_assoc]
  refine or_congr Iff.rfl ?_
  unfold uRn
  rw [ea, eb]
  constructor
  · intro e; exact ⟨h0, Or.inr ⟨h3, e⟩⟩
  · rintro ⟨-, ⟨h2, -⟩ | ⟨-, e⟩⟩
    · rw [h3] at h2; exact absurd h2 (by decide)
    · exact e
theorem uRelN {s a b st : Nat → Int32} {P n : Nat} (h : ¬ (st n = 0 ∧ (s n = 2 ∨ s n = 3))) : ∀ u v, uRel s a b st P n u v ↔ uRel s a b st P (n + 1) u v := by
  intro u v
  rw [uRelK]
  constructor
  · exact Or.inl
  · rintro (r | ⟨h0, ⟨h2, -⟩ | ⟨h3, -⟩⟩)
    · exact r
    · exact absurd ⟨h0, Or.inl h2⟩ h
    · exact absurd ⟨h0, Or.inr h3⟩ h
theorem uOrI {y : Int32} {c : Prop} (h : y = 0 ∨ y = 1) : y ||| uIte c 1 0 = uIte c 1 y := by
  by_cases q : c
  · rw [uItP q, uItP q]; rcases h with h | h <;> rw [h] <;> decide
  · rw [uItN q, uItN q]; rcases h with h | h <;> rw [h] <;> decide
/-- a maximum that is always written is one that is written when it is greater -/
theorem uMaxW {f : Nat → Int32} {u v : Nat} : ∀ w, upd f v (if f v < f u then f u else f v) w = uIte (w = v ∧ f v < f u) (f u) (f w) := by
  intro w
  by_cases c : f v < f u
  · rw [if_pos c]
    by_cases e : w = v
    · rw [uItP ⟨e, c⟩, e, pk_us]
    · rw [uItN (fun q => e q.1), pk_un e]
  · rw [if_neg c, uItN (fun q => c q.2)]
    by_cases e : w = v
    · rw [e, pk_us]
    · rw [pk_un e]
theorem uMinW {g : Nat → Int32} {u v : Nat} : ∀ w, upd g u (if g v < g u then g v else g u) w = uIte (w = u ∧ g v < g u) (g v) (g w) := by
  intro w
  by_cases c : g v < g u
  · rw [if_pos c]
    by_cases e : w = u
    · rw [uItP ⟨e, c⟩, e, pk_us]
    · rw [uItN (fun q => e q.1), pk_un e]
  · rw [if_neg c, uItN (fun q => c q.2)]
    by_cases e : w = u
    · rw [e, pk_us]
    · rw [pk_un e]
theorem uIfR {c : Prop} [Decidable c] {x y : Int32} (hx : ∃ a : Nat, a ≤ 500 ∧ x = nI a) (hy : ∃ a : Nat, a ≤ 500 ∧ y = nI a) : ∃ a : Nat, a ≤ 500 ∧ (if c then x else y) = nI a := by
  by_cases h : c
  · rw [if_pos h]; exact hx
  · rw [if_neg h]; exact hy
theorem uMxR {f : Nat → Int32} (h : uR24 f) {u v : Nat} (hu : u < 24) (hv : v < 24) : uR24 (upd f v (if f v < f u then f u else f v)) := uR24u h (uIfR (h u hu) (h v hv))
theorem uMnR {g : Nat → Int32} (h : uR24 g) {u v : Nat} (hu : u < 24) (hv : v < 24) : uR24 (upd g u (if g v < g u then g v else g u)) := uR24u h (uIfR (h v hv) (h u hu))
theorem uWp {f : Nat → Int32} {u v : Nat} {x : Int32} (c : f v < f u) (e : f u = x) : ∀ w, upd f v x w = uIte (w = v ∧ f v < f u) (f u) (f w) := by
  intro w
  rw [← uMaxW w, if_pos c, e]
theorem uWn {f : Nat → Int32} {u v : Nat} (c : ¬ f v < f u) : ∀ w, f w = uIte (w = v ∧ f v < f u) (f u) (f w) := by
  intro w
  rw [uItN (fun q => c q.2)]
theorem uVp {g : Nat → Int32} {u v : Nat} {x : Int32} (c : g v < g u) (e : g v = x) : ∀ w, upd g u x w = uIte (w = u ∧ g v < g u) (g v) (g w) := by
  intro w
  rw [← uMinW w, if_pos c, e]
theorem uVn {g : Nat → Int32} {u v : Nat} (c : ¬ g v < g u) : ∀ w, g w = uIte (w = u ∧ g v < g u) (g v) (g w) := by
  intro w
  rw [uItN (fun q => c q.2)]
/-! which notes are struck; the bounds that notes set -/
def uAg (N : Nat) (f g : Nat → Int32) : Prop := ∀ v, v < N → f v = g v
theorem uAgU {N i : Nat} {f g : Nat → Int32} {x y : Int32} (h : uAg N f g) (e : i < N → x = y) : uAg N (upd f i x) (upd g i y) := by
  intro v hv
  by_cases c : v = i
  · rw [c, pk_us, pk_us]; exact e (by omega)
  · rw [pk_un c, pk_un c]; exact h v hv
theorem uAgF {N : Nat} {f : Nat → Int32} {x : Int32} (h : uFl N f x) : uAg N f (fun _ => x) := fun v hv => h v hv
noncomputable def uStk (s a : Nat → Int32) (n : Nat) : Nat → Nat → Int32
  | 0 => fun _ => 0
  | m + 1 => uIte (s (n - (m + 1)) = 6 ∧ uStk s a n m (n - (m + 1)) = 0) (upd (uStk s a n m) (uN (a (n - (m + 1)))) 1) (uStk s a n m)
theorem uStkY {s a t : Nat → Int32} {n j x : Nat} (h1 : 1 ≤ j) (h2 : j ≤ n) (h : uAg n t (uStk s a n (n - j))) (c : s (j - 1) = 6) (c' : t (j - 1) = 0) (e : uN (a (j - 1)) = x) : uAg n (upd t x 1) (uStk s a n (n - (j - 1))) := by
  obtain ⟨m, hm⟩ : ∃ m, n - j = m := ⟨_, rfl⟩
  have e1 : n - (j - 1) = m + 1 := by omega
  have e2 : n - (m + 1) = j - 1 := by omega
  rw [hm] at h
  have q : uStk s a n m (j - 1) = 0 := by rw [← h (j - 1) (by omega)]; exact c'
  rw [e1]
  show uAg n (upd t x 1) (uIte (s (n - (m + 1)) = 6 ∧ uStk s a n m (n - (m + 1)) = 0) (upd (uStk s a n m) (uN (a (n - (m + 1)))) 1) (uStk s a n m))
  rw [e2, uItP ⟨c, q⟩, e]
  exact uAgU h (fun _ => rfl)
theorem uStkN {s a t : Nat → Int32} {n j : Nat} (h1 : 1 ≤ j) (h2 : j ≤ n) (h : uAg n t (uStk s a n (n - j))) (c : ¬ (s (j - 1) = 6 ∧ t (j - 1) = 0)) : uAg n t (uStk s a n (n - (j - 1))) := by
  obtain ⟨m, hm⟩ : ∃ m, n - j = m := ⟨_, rfl⟩
  have e1 : n - (j - 1) = m + 1 := by omega
  have e2 : n - (m + 1) = j - 1 := by omega
  rw [hm] at h
  have q : ¬ (s (j - 1) = 6 ∧ uStk s a n m (j - 1) = 0) := by rw [← h (j - 1) (by omega)]; exact c
  rw [e1]
  show uAg n t (uIte (s (n - (m + 1)) = 6 ∧ uStk s a n m (n - (m + 1)) = 0) (upd (uStk s a n m) (uN (a (n - (m + 1)))) 1) (uStk s a n m))
  rw [e2, uItN q]
  exact h
noncomputable def uBl (l : Nat → Int32) (s a : Nat) (y : Int32) : Nat → Int32 := uIte (s = 5) (upd l (2 * a) (if l (2 * a) < y then y else l (2 * a))) (uIte (s = 0 ∨ s = 1 ∨ s = 4) (upd l (2 * a + 1) (if l (2 * a + 1) < y then y else l (2 * a + 1))) l)
noncomputable def uBgr (g : Nat → Int32) (s a : Nat) (y : Int32) : Nat → Int32 := uIte (s = 0) (upd g (2 * a) (if y < g (2 * a) then y else g (2 * a))) (uIte (s = 1) (upd g (2 * a + 1) (if y < g (2 * a + 1) then y else g (2 * a + 1))) g)
theorem uBl5 {l : Nat → Int32} {s a : Nat} {y : Int32} (h : s = 5) : upd l (2 * a) (if l (2 * a) < y then y else l (2 * a)) = uBl l s a y := by unfold uBl; rw [uItP h]
theorem uBl1 {l : Nat → Int32} {s a : Nat} {y : Int32} (h : s = 0 ∨ s = 1 ∨ s = 4) : upd l (2 * a + 1) (if l (2 * a + 1) < y then y else l (2 * a + 1)) = uBl l s a y := by unfold uBl; rw [uItN (by omega), uItP h]
theorem uBl0 {l : Nat → Int32} {s a : Nat} {y : Int32} (h : ¬ s = 5 ∧ ¬ (s = 0 ∨ s = 1 ∨ s = 4)) : l = uBl l s a y := by unfold uBl; rw [uItN h.1, uItN h.2]
theorem uBg0 {g : Nat → Int32} {s a : Nat} {y : Int32} (h : s = 0) : upd g (2 * a) (if y < g (2 * a) then y else g (2 * a)) = uBgr g s a y := by unfold uBgr; rw [uItP h]
theorem uBg1 {g : Nat → Int32} {s a : Nat} {y : Int32} (h : s = 1) : upd g (2 * a + 1) (if y < g (2 * a + 1) then y else g (2 * a + 1)) = uBgr g s a y := by unfold uBgr; rw [uItN (by omega), uItP h]
theorem uBgN {g : Nat → Int32} {s a : Nat} {y : Int32} (h : ¬ s = 0 ∧ ¬ s = 1) : g = uBgr g s a y := by unfold uBgr; rw [uItN h.1, uItN h.2]
theorem uBlA {N s a : Nat} {f g : Nat → Int32} {y : Int32} (h : uAg N f g) : uAg N (uBl f s a y) (uBl g s a y) := by
  unfold uBl
  by_cases c : s = 5
  · rw [uItP c, uItP c]; exact uAgU h (fun q => by rw [h _ q])
  · rw [uItN c, uItN c]
    by_cases d : s = 0 ∨ s = 1 ∨ s = 4
    · rw [uItP d, uItP d]; exact uAgU h (fun q => by rw [h _ q])
    · rw [uItN d, uItN d]; exact h
theorem uBgA {N s a : Nat} {f g : Nat → Int32} {y : Int32} (h : uAg N f g) : uAg N (uBgr f s a y) (uBgr g s a y) := by
  unfold uBgr
  by_cases c : s = 0
  · rw [uItP c, uItP c]; exact uAgU h (fun q => by rw [h _ q])
  · rw [uItN c, uItN c]
    by_cases d : s = 1
    · rw [uItP d, uItP d]; exact uAgU h (fun q => by rw [h _ q])
    · rw [uItN d, uItN d]; exact h
noncomputable def uL0 (s a b st : Nat → Int32) : Nat → Nat → Int32
  | 0 => fun _ => 0
  | n + 1 => uIte (st n = 0) (uBl (uL0 s a b st n) (uN (s n)) (uN (a n)) (b n)) (uL0 s a b st n)
noncomputable def uG0 (s a b st : Nat → Int32) : Nat → Nat → Int32
  | 0 => fun _ => 500
  | n + 1 => uIte (st n = 0) (uBgr (uG0 s a b st n) (uN (s n)) (uN (a n)) (b n)) (uG0 s a b st n)
theorem uL0Y {N n x z : Nat} {s a b st l l' : Nat → Int32} {y : Int32} (h : uAg N l (uL0 s a b st n)) (c : st n = 0) (es : uN (s n) = x) (ea : uN (a n) = z) (eb : b n = y) (e : l' = uBl l x z y) : uAg N l' (uL0 s a b st (n + 1)) := by
  show uAg N l' (uIte (st n = 0) (uBl (uL0 s a b st n) (uN (s n)) (uN (a n)) (b n)) (uL0 s a b st n))
  rw [uItP c, es, ea, eb, e]; exact uBlA h
theorem uL0N {N n : Nat} {s a b st l : Nat → Int32} (h : uAg N l (uL0 s a b st n)) (c : ¬ st n = 0) : uAg N l (uL0 s a b st (n + 1)) := by
  show uAg N l (uIte (st n = 0) (uBl (uL0 s a b st n) (uN (s n)) (uN (a n)) (b n)) (uL0 s a b st n))
  rw [uItN c]; exact h
theorem uG0Y {N n x z : Nat} {s a b st g g' : Nat → Int32} {y : Int32} (h : uAg N g (uG0 s a b st n)) (c : st n = 0) (es : uN (s n) = x) (ea : uN (a n) = z) (eb : b n = y) (e : g' = uBgr g x z y) : uAg N g' (uG0 s a b st (n + 1)) := by
  show uAg N g' (uIte (st n = 0) (uBgr (uG0 s a b st n) (uN (s n)) (uN (a n)) (b n)) (uG0 s a b st n))
  rw [uItP c, es, ea, eb, e]; exact uBgA h
theorem uG0N {N n : Nat} {s a b st g : Nat → Int32} (h : uAg N g (uG0 s a b st n)) (c : ¬ st n = 0) : uAg N g (uG0 s a b st (n + 1)) := by
  show uAg N g (uIte (st n = 0) (uBgr (uG0 s a b st n) (uN (s n)) (uN (a n)) (b n)) (uG0 s a b st n))
  rw [uItN c]; exact h
theorem uR24L {l l' : Nat → Int32} {s a : Nat} {y : Int32} (h : uR24 l) (ha : s = 6 ∨ a ≤ 11) (e : l' = uBl l s a y) (hy : ∃ w : Nat, w ≤ 500 ∧ y = nI w) : uR24 l' := by
  rw [e]
  unfold uBl
  by_cases c : s = 5
  · rw [uItP c]; exact uR24u h (uIfR hy (h _ (by omega)))
  · rw [uItN c]
    by_cases d : s = 0 ∨ s = 1 ∨ s = 4
    · rw [uItP d]; exact uR24u h (uIfR hy (h _ (by omega)))
    · rw [uItN d]; exact h
theorem uR24G {g g' : Nat → Int32} {s a : Nat} {y : Int32} (h : uR24 g) (ha : s = 6 ∨ a ≤ 11) (e : g' = uBgr g s a y) (hy : ∃ w : Nat, w ≤ 500 ∧ y = nI w) : uR24 g' := by
  rw [e]
  unfold uBgr
  by_cases c : s = 0
  · rw [uItP c]; exact uR24u h (uIfR hy (h _ (by omega)))
  · rw [uItN c]
    by_cases d : s = 1
    · rw [uItP d]; exact uR24u h (uIfR hy (h _ (by omega)))
    · rw [uItN d]; exact h
theorem uNt11 {s a b : Nat → Int32} (h : uNt s a b) (rs : uRg s 0 6) (ra : uRg a 0 59) (k : Nat) : uN (s k) = 6 ∨ uN (a k) ≤ 11 := by
  obtain ⟨x, hx, ex⟩ := uRnat rs k (by decide)
  obtain ⟨y, hy, ey⟩ := uRnat ra k (by decide)
  simp only [Int32.reduceToInt] at hx hy
  rw [uNe (by omega) ex, uNe (by omega) ey]
  by_cases c : x = 6
  · exact Or.inl c
  · exact Or.inr (uNtF h k ex ey ⟨c, by omega⟩ (by omega))
/-! what is drawn -/
/-- l and g are, below N, between the start and everything that grows; and all pairs of the first N / 2 posts and of the notes hold -/
def uDrw (s a b st : Nat → Int32) (n N : Nat) (f g : Nat → Int32) : Prop :=
  uIvl (uRel s a b st 12 n) (uNl (uL0 s a b st n)) N (uNl f) ∧ uIvl (uOp (uRel s a b st 12 n)) (uNg (uG0 s a b st n)) N (uNg g) ∧ (∀ p n', 2 * p ≤ N → n' ≤ n → ∀ u v, uRel s a b st p n' u v → uNl f u ≤ uNl f v ∧ uNg g v ≤ uNg g u)
theorem uIv0 {R : Nat → Nat → Prop} {a l : Nat → Nat} {N : Nat} (hN : N ≤ 24) (h : ∀ v, v < N → l v = a v) : uIvl R a N l := ⟨fun v hv => Nat.le_of_eq (h v hv).symm, fun H h1 _ v hv => by rw [h v hv]; exact h1 v (by omega)⟩
theorem uNlA {N : Nat} {f g : Nat → Int32} (h : uAg N f g) : ∀ v, v < N → uNl f v = uNl g v := fun v hv => by unfold uNl; rw [h v hv]
theorem uNgA {N : Nat} {f g : Nat → Int32} (h : uAg N f g) : ∀ v, v < N → uNg f v = uNg g v := fun v hv => by unfold uNg; rw [h v hv]
/-! rounds of the class -/
theorem uDnZ {j : Nat} (hj : j < 2 ^ 31) (h : nI j - 1 < 0) : j = 0 := by
  by_cases q : j = 0
  · exact q
  · exfalso
    rw [uDn0 (by omega), Int32.lt_iff_toInt_lt, nI_toInt (by omega)] at h
    simp only [Int32.reduceToInt] at h
    omega
def uMt (N : Nat) (f g : Nat → Int32) : Prop := ∀ v, v < N → ¬ g v < f v
theorem uMt0 {f g : Nat → Int32} : uMt 0 f g := fun _ h => absurd h (Nat.not_lt_zero _)
theorem uMtS {N : Nat} {f g : Nat → Int32} (h : uMt N f g) (c : ¬ g N < f N) : uMt (N + 1) f g := by
  intro v hv
  by_cases e : v = N
  · rw [e]; exact c
  · exact h v (by omega)
theorem uRelB {s a b st : Nat → Int32} (h : uNt s a b) (ra : uRg a 0 59) (rb : uRg b 0 500) {n u v : Nat} (r : uRel s a b st 12 n u v) : u < 24 ∧ v < 24 := by
  rcases r with ⟨p, hp, e1, e2⟩ | ⟨k, hk, h0, q⟩
  · omega
  · obtain ⟨x, hx, ex⟩ := uRnat ra k (by decide)
    obtain ⟨y, hy, ey⟩ := uRnat rb k (by decide)
    simp only [Int32.reduceToInt] at hx hy
    have nx : uN (a k) = x := uNe (by omega) ex
    have ny : uN (b k) = y := uNe (by omega) ey
    have ss : s k = nI 2 ∨ s k = nI 3 := q.elim (fun q => Or.inl q.1) (fun q => Or.inr q.1)
    have hx11 : x ≤ 11 := by
      rcases ss with ss | ss
      · exact uNtF h k ss ex ⟨by omega, by omega⟩ (by omega)
      · exact uNtF h k ss ex ⟨by omega, by omega⟩ (by omega)
    have hy11 : y ≤ 11 := by
      rcases ss with ss | ss
      · exact uNtG h k ss ey (Or.inl rfl) (by omega)
      · exact uNtG h k ss ey (Or.inr rfl) (by omega)
    rw [nx, ny] at q
    rcases q with ⟨-, e1, e2⟩ | ⟨-, ⟨e1, e2⟩ | ⟨e1, e2⟩⟩ <;> omega
def uRnd (R : Nat → Nat → Prop) (a l : Nat → Nat) (r : Nat) : Prop := ∀ F, uLea R a F → uCnt l F 24 + r ≤ 24 ∨ ∀ v, v < 24 → l v = F v
theorem uRnd0 {R : Nat → Nat → Prop} {a l : Nat → Nat} : uRnd R a l 0 := fun F _ => Or.inl (by have q := uCntB (l := l) (F := F) 24; omega)
theorem uRndS {R : Nat → Nat → Prop} {a l l' : Nat → Nat} {r : Nat} (hR : ∀ u v, R u v → u < 24 ∧ v < 24) (h : uRnd R a l r) (i : uIvl R a 24 l) (i' : uIvl R a 24 l') (m : ∀ w, l w ≤ l' w) (p : ∀ u v, R u v → l u ≤ l' v) : uRnd R a l' (r + 1) := by
  intro F hF
  have up : uAbv l' F := fun v hv => i'.2 F hF.1 hF.2.1 v hv
  rcases h F hF with k | k
  · rcases uRound hR hF i.1 (fun v _ => m v) up p with q | q
    · exact Or.inl (by omega)
    · exact Or.inr q
  · right
    intro v hv
    have q1 := k v hv
    have q2 := m v
    have q3 := up v hv
    omega
theorem uRndE {R : Nat → Nat → Prop} {a l : Nat → Nat} {B : Nat} (hR : ∀ u v, R u v → u < 24 ∧ v < 24) (hB : ∀ v, v < 24 → a v ≤ B) (h : uRnd R a l 24) (i : uIvl R a 24 l) : ∀ u v, R u v → l u ≤ l v := by
  obtain ⟨F, hF⟩ := uLeaEx R a hB
  have e : ∀ v, v < 24 → l v = F v := by
    rcases h F hF with k | k
    · intro v hv
      have q1 := uCnt0 24 (show uCnt l F 24 = 0 by omega) v hv
      have q2 := i.2 F hF.1 hF.2.1 v hv
      omega
    · exact k
  intro u v r
  obtain ⟨hu, hv⟩ := hR u v r
  rw [e u hu, e v hv]
  exact hF.2.1 u v r
theorem uRelM {s a b st : Nat → Int32} {p q n m u v : Nat} (hp : p ≤ q) (hn : n ≤ m) (r : uRel s a b st p n u v) : uRel s a b st q m u v := by
  rcases r with ⟨k, hk, e⟩ | ⟨k, hk, e⟩
  · exact Or.inl ⟨k, by omega, e⟩
  · exact Or.inr ⟨k, by omega, e⟩
theorem uDrwC {s a b st f g : Nat → Int32} {n : Nat} (i1 : uIvl (uRel s a b st 12 n) (uNl (uL0 s a b st n)) 24 (uNl f)) (i2 : uIvl (uOp (uRel s a b st 12 n)) (uNg (uG0 s a b st n)) 24 (uNg g)) (h : ∀ u v, uRel s a b st 12 n u v → uNl f u ≤ uNl f v ∧ uNg g v ≤ uNg g u) : uDrw s a b st n 24 f g :=
  ⟨i1, i2, fun p n' hp hn u v r => h u v (uRelM (by omega) hn r)⟩
theorem uOkF {f g : Nat → Int32} : uOkv 0 (fun _ _ => False) f g := Or.inr (fun _ _ h => h.elim)
theorem uOkW {mv : Int32} {V : Nat → Nat → Prop} {f g : Nat → Int32} (h : uOkv mv (fun u v => False ∨ V u v) f g) : uOkv mv V f g := h.imp id (fun q u v r => q u v (Or.inr r))
theorem uOkE {mv : Int32} {V : Nat → Nat → Prop} {f g : Nat → Int32} (h : uOkv mv V f g) (c : mv = 0) : ∀ u v, V u v → uNl f u ≤ uNl f v ∧ uNg g v ≤ uNg g u := by
  rcases h with h | h
  · rw [c] at h; exact absurd h (by decide)
  · exact h
theorem uL5 {f : Nat → Int32} (v : Nat) : uNg f v ≤ 500 := Nat.sub_le _ _
theorem uNl5 {f : Nat → Int32} (h : uR24 f) : ∀ v, v < 24 → uNl f v ≤ 500 := by
  intro v hv
  obtain ⟨a, ha, e⟩ := h v hv
  show uN (f v) ≤ 500
  rw [uNe (by omega) e]; exact ha
/-- what is kept of the last drawing -/
def uCch (s a b st : Nat → Int32) (d : Int32) (f g : Nat → Int32) (ag : Int32) (sz : Nat) : Prop := (ag = 0 ∨ ag = 1) ∧ (d = -1 ∨ ∃ n, n ≤ sz ∧ d = nI n ∧ uAg n st (uStk s a n n) ∧ uDrw s a b st n 24 f g ∧ uR24 f ∧ uR24 g ∧ (ag = 1 ↔ uMt 24 f g))
theorem uCchM {s a b st f g : Nat → Int32} {ag : Int32} {sz n : Nat} (h0 : ag = 0 ∨ ag = 1) (hn : n ≤ sz) (h1 : uAg n st (uStk s a n n)) (h2 : uDrw s a b st n 24 f g) (h3 : uR24 f) (h4 : uR24 g) (h5 : ag = 1 ↔ uMt 24 f g) : uCch s a b st (nI n) f g ag sz := ⟨h0, Or.inr ⟨n, hn, rfl, h1, h2, h3, h4, h5⟩⟩
theorem uCchU {s a b st f g : Nat → Int32} {d ag : Int32} {sz n : Nat} (h : uCch s a b st d f g ag sz) (hz : sz < 2 ^ 31) (hn : n < 2 ^ 31) (e : nI n = d) : uAg n st (uStk s a n n) ∧ uDrw s a b st n 24 f g ∧ uR24 f ∧ uR24 g ∧ (ag = 1 ↔ uMt 24 f g) := by
  rcases h.2 with q | ⟨m, hm, em, r⟩
  · rw [q] at e; exact absurd e (uNn hn (by decide))
  · have : n = m := (nI_eq hn (by omega)).mp (e.trans em)
    subst this; exact r
/-! the model's rounds -/
def uNo (s a b u v : Nat) : Prop := (s = 2 ∧ u = 2 * b + 1 ∧ v = 2 * a) ∨ (s = 3 ∧ ((u = 2 * a ∧ v = 2 * b + 1) ∨ (u = 2 * b ∧ v = 2 * a + 1)))
theorem uNo2 {s a b : Nat} (h : s = 2) : ∀ u v, (u = 2 * b + 1 ∧ v = 2 * a) ↔ uNo s a b u v := by
  intro u v; unfold uNo; omega
theorem uNo3 {s a b : Nat} (h : s = 3) : ∀ u v, ((u = 2 * a ∧ v = 2 * b + 1) ∨ (u = 2 * b ∧ v = 2 * a + 1)) ↔ uNo s a b u v := by
  intro u v; unfold uNo; omega
theorem uNoN {s a b : Nat} (h : ¬ s = 2 ∧ ¬ s = 3) : ∀ u v, False ↔ uNo s a b u v := by
  intro u v
  constructor
  · exact False.elim
  · rintro (⟨q, -⟩ | ⟨q, -⟩)
    · exact h.1 q
    · exact h.2 q
theorem uRelO {s a b st : Nat → Int32} {P n x y z : Nat} (h0 : st n = 0) (es : s n = nI x) (ea : a n = nI y) (eb : b n = nI z) (hx : x < 2 ^ 31) (hy : y < 2 ^ 31) (hz : z < 2 ^ 31) : ∀ u v, (uRel s a b st P n u v ∨ uNo x y z u v) ↔ uRel s a b st P (n + 1) u v := by
  intro u v
  rw [uRelK]
  refine or_congr Iff.rfl ?_
  unfold uRn uNo
  rw [uNe hy ea, uNe hz eb]
  have e2 : s n = 2 ↔ x = 2 := by rw [es]; exact nI_eq (b := 2) hx (by decide)
  have e3 : s n = 3 ↔ x = 3 := by rw [es]; exact nI_eq (b := 3) hx (by decide)
  rw [e2, e3]
  constructor
  · intro q; exact ⟨h0, q⟩
  · intro q; exact q.2
def uNp (s a b : Nat → Int32) (m P : Nat) : Prop := ∀ k, k < m → (s k = 2 ∨ s k = 3 → uN (a k) < P ∧ uN (b k) < P) ∧ (¬ s k = 6 → uN (a k) < P)
theorem uRelC {s a b st : Nat → Int32} {m n P : Nat} (h : uNp s a b m P) (hn : n ≤ m) (hP : P ≤ 12) : ∀ u v, uRel s a b st P n u v → uRel s a b st 12 n u v ∧ u < 2 * P ∧ v < 2 * P := by
  intro u v r
  refine ⟨uRelM hP (Nat.le_refl _) r, ?_⟩
  rcases r with ⟨p, hp, e1, e2⟩ | ⟨k, hk, -, q⟩
  · omega
  · obtain ⟨h1, -⟩ := h k (by omega)
    obtain ⟨x1, x2⟩ := h1 (q.elim (fun q => Or.inl q.1) (fun q => Or.inr q.1))
    rcases q with ⟨-, e1, e2⟩ | ⟨-, ⟨e1, e2⟩ | ⟨e1, e2⟩⟩ <;> omega
theorem uDrwM {s a b st f g : Nat → Int32} {n P : Nat} (i1 : uIvl (uRel s a b st 12 n) (uNl (uL0 s a b st n)) (2 * P) (uNl f)) (i2 : uIvl (uOp (uRel s a b st 12 n)) (uNg (uG0 s a b st n)) (2 * P) (uNg g)) (h : ∀ u v, uRel s a b st P n u v → uNl f u ≤ uNl f v ∧ uNg g v ≤ uNg g u) : uDrw s a b st n (2 * P) f g :=
  ⟨i1, i2, fun p n' hp hn u v r => h u v (uRelM (by omega) hn r)⟩
theorem uAn1 {y : Int32} {P Q : Prop} (h : y = 0 ∨ y = 1) (e : y = 1 ↔ P) (q : P ↔ Q) : y &&& 1 = 1 ↔ Q := by
  rw [← q, ← e]
  rcases h with h | h <;> rw [h] <;> decide
theorem uAn0 {y : Int32} {Q : Prop} (h : y = 0 ∨ y = 1) (q : ¬ Q) : y &&& 0 = 1 ↔ Q := by
  refine iff_of_false ?_ q
  rcases h with h | h <;> rw [h] <;> decide
theorem uMtI {N : Nat} {f g : Nat → Int32} (c : ¬ g N < f N) : uMt N f g ↔ uMt (N + 1) f g := ⟨fun h => uMtS h c, fun h v hv => h v (by omega)⟩
/-! both drawings are the same -/
theorem uN5 : uN 500 = 500 := uNe (a := 500) (by omega) rfl
theorem uL0C {s a b st st' : Nat → Int32} : ∀ n, (∀ k, k < n → st k = st' k) → uL0 s a b st n = uL0 s a b st' n
  | 0, _ => rfl
  | n + 1, h => by
    show uIte (st n = 0) (uBl (uL0 s a b st n) (uN (s n)) (uN (a n)) (b n)) (uL0 s a b st n) = uIte (st' n = 0) (uBl (uL0 s a b st' n) (uN (s n)) (uN (a n)) (b n)) (uL0 s a b st' n)
    rw [uL0C n (fun k hk => h k (by omega)), h n (by omega)]
theorem uG0C {s a b st st' : Nat → Int32} : ∀ n, (∀ k, k < n → st k = st' k) → uG0 s a b st n = uG0 s a b st' n
  | 0, _ => rfl
  | n + 1, h => by
    show uIte (st n = 0) (uBgr (uG0 s a b st n) (uN (s n)) (uN (a n)) (b n)) (uG0 s a b st n) = uIte (st' n = 0) (uBgr (uG0 s a b st' n) (uN (s n)) (uN (a n)) (b n)) (uG0 s a b st' n)
    rw [uG0C n (fun k hk => h k (by omega)), h n (by omega)]
theorem uRelS {s a b st st' : Nat → Int32} {P n : Nat} (h : ∀ k, k < n → st k = st' k) : uRel s a b st P n = uRel s a b st' P n := by
  funext u v
  refine propext ⟨?_, ?_⟩
  · rintro (p | ⟨k, hk, r⟩)
    · exact Or.inl p
    · refine Or.inr ⟨k, hk, ?_⟩
      unfold uRn at r ⊢
      rw [← h k hk]; exact r
  · rintro (p | ⟨k, hk, r⟩)
    · exact Or.inl p
    · refine Or.inr ⟨k, hk, ?_⟩
      unfold uRn at r ⊢
      rw [h k hk]; exact r
theorem uL0Z {s a b st : Nat → Int32} {m P : Nat} (rs : uRg s 0 6) (h : uNp s a b m P) : ∀ n, n ≤ m → ∀ v, 2 * P ≤ v → uL0 s a b st n v = 0
  | 0, _ => fun _ _ => rfl
  | n + 1, hn => by
    intro v hv
    have ih := uL0Z (st := st) rs h n (by omega) v hv
    show uIte (st n = 0) (uBl (uL0 s a b st n) (uN (s n)) (uN (a n)) (b n)) (uL0 s a b st n) v = 0
    by_cases c : st n = 0
    · rw [uItP c]
      obtain ⟨x, hx, ex⟩ := uRnat rs n (by decide)
      simp only [Int32.reduceToInt] at hx
      have e6 : s n = 6 ↔ x = 6 := by rw [ex]; exact nI_eq (b := 6) (by omega) (by decide)
      have hA := (h n (by omega)).2
      rw [uNe (by omega) ex]
      unfold uBl
      by_cases c5 : x = 5
      · have q := hA (fun r => by have := e6.mp r; omega)
        rw [uItP c5, pk_un (by omega)]; exact ih
      · rw [uItN c5]
        by_cases d : x = 0 ∨ x = 1 ∨ x = 4
        · have q := hA (fun r => by have := e6.mp r; omega)
          rw [uItP d, pk_un (by omega)]; exact ih
        · rw [uItN d]; exact ih
    · rw [uItN c]; exact ih
theorem uG0Z {s a b st : Nat → Int32} {m P : Nat} (rs : uRg s 0 6) (h : uNp s a b m P) : ∀ n, n ≤ m → ∀ v, 2 * P ≤ v → uG0 s a b st n v = 500
  | 0, _ => fun _ _ => rfl
  | n + 1, hn => by
    intro v hv
    have ih := uG0Z (st := st) rs h n (by omega) v hv
    show uIte (st n = 0) (uBgr (uG0 s a b st n) (uN (s n)) (uN (a n)) (b n)) (uG0 s a b st n) v = 500
    by_cases c : st n = 0
    · rw [uItP c]
      obtain ⟨x, hx, ex⟩ := uRnat rs n (by decide)
      simp only [Int32.reduceToInt] at hx
      have e6 : s n = 6 ↔ x = 6 := by rw [ex]; exact nI_eq (b := 6) (by omega) (by decide)
      have hA := (h n (by omega)).2
      rw [uNe (by omega) ex]
      unfold uBgr
      by_cases c5 : x = 0
      · have q := hA (fun r => by have := e6.mp r; omega)
        rw [uItP c5, pk_un (by omega)]; exact ih
      · rw [uItN c5]
        by_cases d : x = 1
        · have q := hA (fun r => by have := e6.mp r; omega)
          rw [uItP d, pk_un (by omega)]; exact ih
        · rw [uItN d]; exact ih
    · rw [uItN c]; exact ih
/-- a model's drawing, with 0 above, is the least one -/
theorem uLeaM {s a b st : Nat → Int32} {m n P : Nat} {A l : Nat → Nat} (h : uNp s a b m P) (hn : n ≤ m) (hP : P ≤ 12) (z : ∀ v, 2 * P ≤ v → A v = 0) (i : uIvl (uRel s a b st 12 n) A (2 * P) l) (t : ∀ u v, uRel s a b st P n u v → l u ≤ l v) : uLea (uRel s a b st 12 n) A (fun v => if v < 2 * P then l v else 0) := by
  have cut : ∀ u v, uRel s a b st 12 n u v → (uRel s a b st P n u v) ∨ (2 * P ≤ u) := by
    rintro u v (⟨p, hp, e1, e2⟩ | r)
    · by_cases c : p < P
      · exact Or.inl (Or.inl ⟨p, c, e1, e2⟩)
      · right; omega
    · exact Or.inl (Or.inr r)
  refine ⟨?_, ?_, ?_⟩
  · intro v hv
    show A v ≤ (if v < 2 * P then l v else 0)
    by_cases c : v < 2 * P
    · rw [if_pos c]; exact i.1 v c
    · rw [if_neg c, z v (by omega)]; exact Nat.le_refl _
  · intro u v r
    show (if u < 2 * P then l u else 0) ≤ (if v < 2 * P then l v else 0)
    rcases cut u v r with q | q
    · obtain ⟨-, hu, hv⟩ := uRelC h hn hP u v q
      rw [if_pos hu, if_pos hv]; exact t u v q
    · rw [if_neg (by omega)]; exact Nat.zero_le _
  · intro H h1 h2 v hv
    show (if v < 2 * P then l v else 0) ≤ H v
    by_cases c : v < 2 * P
    · rw [if_pos c]; exact i.2 H h1 h2 v c
    · rw [if_neg c]; exact Nat.zero_le _
theorem uLeaO {s a b st : Nat → Int32} {m n P : Nat} {A l : Nat → Nat} (h : uNp s a b m P) (hn : n ≤ m) (hP : P ≤ 12) (z : ∀ v, 2 * P ≤ v → A v = 0) (i : uIvl (uOp (uRel s a b st 12 n)) A (2 * P) l) (t : ∀ u v, uRel s a b st P n u v → l v ≤ l u) : uLea (uOp (uRel s a b st 12 n)) A (fun v => if v < 2 * P then l v else 0) := by
  have cut : ∀ u v, uRel s a b st 12 n u v → (uRel s a b st P n u v) ∨ (2 * P ≤ v) := by
    rintro u v (⟨p, hp, e1, e2⟩ | r)
    · by_cases c : p < P
      · exact Or.inl (Or.inl ⟨p, c, e1, e2⟩)
      · right; omega
    · exact Or.inl (Or.inr r)
  refine ⟨?_, ?_, ?_⟩
  · intro v hv
    show A v ≤ (if v < 2 * P then l v else 0)
    by_cases c : v < 2 * P
    · rw [if_pos c]; exact i.1 v c
    · rw [if_neg c, z v (by omega)]; exact Nat.le_refl _
  · intro u v r
    show (if u < 2 * P then l u else 0) ≤ (if v < 2 * P then l v else 0)
    rcases cut v u r with q | q
    · obtain ⟨-, hv, hu⟩ := uRelC h hn hP v u q
      rw [if_pos hu, if_pos hv]; exact t v u q
    · rw [if_neg (by omega)]; exact Nat.zero_le _
  · intro H h1 h2 v hv
    show (if v < 2 * P then l v else 0) ≤ H v
    by_cases c : v < 2 * P
    · rw [if_pos c]; exact i.2 H h1 h2 v c
    · rw [if_neg c]; exact Nat.zero_le _
theorem uNl_eq {f f' : Nat → Int32} {v : Nat} (h : ∃ a : Nat, a ≤ 500 ∧ f v = nI a) (h' : ∃ a : Nat, a ≤ 500 ∧ f' v = nI a) (e : uNl f v = uNl f' v) : f v = f' v := by
  obtain ⟨x, hx, ex⟩ := h
  obtain ⟨y, hy, ey⟩ := h'
  have e : uN (f v) = uN (f' v) := e
  rw [uNe (by omega) ex, uNe (by omega) ey] at e
  rw [ex, ey, e]
theorem uNg_eq {f f' : Nat → Int32} {v : Nat} (h : ∃ a : Nat, a ≤ 500 ∧ f v = nI a) (h' : ∃ a : Nat, a ≤ 500 ∧ f' v = nI a) (e : uNg f v = uNg f' v) : f v = f' v := by
  obtain ⟨x, hx, ex⟩ := h
  obtain ⟨y, hy, ey⟩ := h'
  have e : 500 - uN (f v) = 500 - uN (f' v) := e
  rw [uNe (by omega) ex, uNe (by omega) ey] at e
  rw [ex, ey, show x = y by omega]
theorem uDrwU {s a b st st' f g f' g' : Nat → Int32} {n m P : Nat} (rs : uRg s 0 6) (h : uNp s a b m P) (hn : n ≤ m) (hP : P ≤ 12) (k1 : uAg n st (uStk s a n n)) (k2 : uAg n st' (uStk s a n n)) (d : uDrw s a b st n 24 f g) (d' : uDrw s a b st' n (2 * P) f' g') (rf : uR24 f) (rg : uR24 g) (rf' : uR24 f') (rg' : uR24 g') : uAg (2 * P) f f' ∧ uAg (2 * P) g g' ∧ (uMt 24 f g ↔ uMt (2 * P) f' g') := by
  have hst : ∀ k, k < n → st' k = st k := fun k hk => (k2 k hk).trans (k1 k hk).symm
  obtain ⟨i1, i2, i3⟩ := d
  obtain ⟨j1, j2, j3⟩ := d'
  rw [uRelS hst, uL0C n hst] at j1
  rw [uRelS hst, uG0C n hst] at j2
  have j3' : ∀ u v, uRel s a b st P n u v → uNl f' u ≤ uNl f' v ∧ uNg g' v ≤ uNg g' u := by
    intro u v r
    rw [← uRelS hst] at r
    exact j3 P n (Nat.le_refl _) (Nat.le_refl _) u v r
  have zL : ∀ v, 2 * P ≤ v → uNl (uL0 s a b st n) v = 0 := fun v hv => by
    show uN (uL0 s a b st n v) = 0
    rw [uL0Z rs h n hn v hv]; exact uNe (a := 0) (by omega) rfl
  have zG : ∀ v, 2 * P ≤ v → uNg (uG0 s a b st n) v = 0 := fun v hv => by
    show 500 - uN (uG0 s a b st n v) = 0
    rw [uG0Z rs h n hn v hv, uN5]
  have cL : uLea (uRel s a b st 12 n) (uNl (uL0 s a b st n)) (uNl f) := ⟨i1.1, fun u v r => (i3 12 n (by omega) (Nat.le_refl _) u v r).1, i1.2⟩
  have cG : uLea (uOp (uRel s a b st 12 n)) (uNg (uG0 s a b st n)) (uNg g) := ⟨i2.1, fun u v r => (i3 12 n (by omega) (Nat.le_refl _) v u r).2, i2.2⟩
  have eL := uLeaU cL (uLeaM h hn hP zL j1 (fun u v r => (j3' u v r).1))
  have eG := uLeaU cG (uLeaO h hn hP zG j2 (fun u v r => (j3' u v r).2))
  have aL : uAg (2 * P) f f' := by
    intro v hv
    have q := eL v (by omega)
    have q : uNl f v = (if v < 2 * P then uNl f' v else 0) := q
    rw [if_pos hv] at q
    exact uNl_eq (rf v (by omega)) (rf' v (by omega)) q
  have aG : uAg (2 * P) g g' := by
    intro v hv
    have q := eG v (by omega)
    have q : uNg g v = (if v < 2 * P then uNg g' v else 0) := q
    rw [if_pos hv] at q
    exact uNg_eq (rg v (by omega)) (rg' v (by omega)) q
  refine ⟨aL, aG, fun k v hv => ?_, fun k v hv => ?_⟩
  · rw [← aL v hv, ← aG v hv]; exact k v (by omega)
  · by_cases c : v < 2 * P
    · rw [aL v c, aG v c]; exact k v c
    · have q1 : uNl f v = (if v < 2 * P then uNl f' v else 0) := eL v hv
      have q2 : uNg g v = (if v < 2 * P then uNg g' v else 0) := eG v hv
      rw [if_neg c] at q1 q2
      obtain ⟨x, hx, ex⟩ := rf v hv
      obtain ⟨y, hy, ey⟩ := rg v hv
      have q1 : uN (f v) = 0 := q1
      have q2 : 500 - uN (g v) = 0 := q2
      rw [uNe (by omega) ex] at q1
      rw [uNe (by omega) ey] at q2
      rw [ex, ey]
      exact fun r => absurd ((nI_ltI (by omega) (by omega)).mp r) (by omega)
/-! the answers -/
noncomputable def uYa (w : Int32) (f g : Nat → Int32) (p : Nat) : Int32 := uIte (w = 0) (f (2 * p)) (uIte (w = 1) (g (2 * p)) (uIte (w = 2) (f (2 * p + 1)) (g (2 * p + 1))))
theorem uYa0 {w : Int32} {f g : Nat → Int32} {p : Nat} (h : w = 0) : f (2 * p) = uYa w f g p := by unfold uYa; rw [uItP h]
theorem uYa1 {w : Int32} {f g : Nat → Int32} {p : Nat} (h : w = 1) : g (2 * p) = uYa w f g p := by unfold uYa; rw [uItN (by rw [h]; decide), uItP h]
theorem uYa2 {w : Int32} {f g : Nat → Int32} {p : Nat} (h : w = 2) : f (2 * p + 1) = uYa w f g p := by unfold uYa; rw [uItN (by rw [h]; decide), uItN (by rw [h]; decide), uItP h]
theorem uYa3 {w : Int32} {f g : Nat → Int32} {p : Nat} (h : w = 3) : g (2 * p + 1) = uYa w f g p := by unfold uYa; rw [uItN (by rw [h]; decide), uItN (by rw [h]; decide), uItN (by rw [h]; decide)]
/-- 2 if sure, 1 if it may be -/
noncomputable def uSa (y : Int32) (f g : Nat → Int32) (p : Nat) : Int32 := uIte (¬ y < g (2 * p) ∧ ¬ f (2 * p + 1) < y) 2 (uIte (¬ y < f (2 * p) ∧ ¬ g (2 * p + 1) < y) 1 0)
theorem uSaE {y : Int32} {f g f' g' : Nat → Int32} {p P : Nat} (h : uAg (2 * P) f f') (k : uAg (2 * P) g g') (hp : p < P) : uSa y f g p = uSa y f' g' p := by
  unfold uSa
  rw [h (2 * p) (by omega), h (2 * p + 1) (by omega), k (2 * p) (by omega), k (2 * p + 1) (by omega)]
theorem uSa2 {y : Int32} {f g : Nat → Int32} {p : Nat} (h : ¬ y < g (2 * p) ∧ ¬ f (2 * p + 1) < y) : 2 = uSa y f g p := by unfold uSa; rw [uItP h]
theorem uSa1 {y : Int32} {f g : Nat → Int32} {p : Nat} (h : ¬ (¬ y < g (2 * p) ∧ ¬ f (2 * p + 1) < y)) (k : ¬ y < f (2 * p) ∧ ¬ g (2 * p + 1) < y) : 1 = uSa y f g p := by unfold uSa; rw [uItN h, uItP k]
theorem uSa0 {y : Int32} {f g : Nat → Int32} {p : Nat} (h : ¬ (¬ y < g (2 * p) ∧ ¬ f (2 * p + 1) < y)) (k : ¬ (¬ y < f (2 * p) ∧ ¬ g (2 * p + 1) < y)) : 0 = uSa y f g p := by unfold uSa; rw [uItN h, uItN k]
/-- an answer out of a drawing: A if it holds, z in a quarrel -/
def uAnsC (D : Prop) (s a b : Nat → Int32) (n : Nat) (A : (Nat → Int32) → (Nat → Int32) → Int32) (z r : Int32) : Prop := (¬ D ∧ r = -1) ∨ (D ∧ ∃ st f g, uAg n st (uStk s a n n) ∧ uDrw s a b st n 24 f g ∧ uR24 f ∧ uR24 g ∧ r = uIte (uMt 24 f g) (A f g) z)
def uDY (x n w : Int32) (P k : Nat) : Prop := (0 ≤ x.toInt ∧ x.toInt < (P : Int)) ∧ (0 ≤ n.toInt ∧ n.toInt ≤ (k : Int)) ∧ 0 ≤ w.toInt ∧ w.toInt ≤ 3
def uDO (x y n : Int32) (P k : Nat) : Prop := (0 ≤ x.toInt ∧ x.toInt < (P : Int)) ∧ (0 ≤ y.toInt ∧ y.toInt ≤ 500) ∧ 0 ≤ n.toInt ∧ n.toInt ≤ (k : Int)
/-! what a note more keeps -/
theorem uStkC {s a s' a' : Nat → Int32} {n : Nat} (hs : ∀ k, k < n → s' k = s k) (ha : ∀ k, k < n → a' k = a k) : ∀ m, m ≤ n → uStk s' a' n m = uStk s a n m
  | 0, _ => rfl
  | m + 1, hm => by
    show uIte (s' (n - (m + 1)) = 6 ∧ uStk s' a' n m (n - (m + 1)) = 0) (upd (uStk s' a' n m) (uN (a' (n - (m + 1)))) 1) (uStk s' a' n m) = uIte (s (n - (m + 1)) = 6 ∧ uStk s a n m (n - (m + 1)) = 0) (upd (uStk s a n m) (uN (a (n - (m + 1)))) 1) (uStk s a n m)
    rw [uStkC hs ha m (by omega), hs _ (show n - (m + 1) < n by omega), ha _ (show n - (m + 1) < n by omega)]
theorem uL0D {s a b s' a' b' st : Nat → Int32} : ∀ n, (∀ k, k < n → s' k = s k) → (∀ k, k < n → a' k = a k) → (∀ k, k < n → b' k = b k) → uL0 s' a' b' st n = uL0 s a b st n
  | 0, _, _, _ => rfl
  | n + 1, h1, h2, h3 => by
    show uIte (st n = 0) (uBl (uL0 s' a' b' st n) (uN (s' n)) (uN (a' n)) (b' n)) (uL0 s' a' b' st n) = uIte (st n = 0) (uBl (uL0 s a b st n) (uN (s n)) (uN (a n)) (b n)) (uL0 s a b st n)
    rw [uL0D n (fun k hk => h1 k (by omega)) (fun k hk => h2 k (by omega)) (fun k hk => h3 k (by omega)), h1 n (by omega), h2 n (by omega), h3 n (by omega)]
theorem uG0D {s a b s' a' b' st : Nat → Int32} : ∀ n, (∀ k, k < n → s' k = s k) → (∀ k, k < n → a' k = a k) → (∀ k, k < n → b' k = b k) → uG0 s' a' b' st n = uG0 s a b st n
  | 0, _, _, _ => rfl
  | n + 1, h1, h2, h3 => by
    show uIte (st n = 0) (uBgr (uG0 s' a' b' st n) (uN (s' n)) (uN (a' n)) (b' n)) (uG0 s' a' b' st n) = uIte (st n = 0) (uBgr (uG0 s a b st n) (uN (s n)) (uN (a n)) (b n)) (uG0 s a b st n)
    rw [uG0D n (fun k hk => h1 k (by omega)) (fun k hk => h2 k (by omega)) (fun k hk => h3 k (by omega)), h1 n (by omega), h2 n (by omega), h3 n (by omega)]
theorem uRelD {s a b s' a' b' st : Nat → Int32} {P n : Nat} (h1 : ∀ k, k < n → s' k = s k) (h2 : ∀ k, k < n → a' k = a k) (h3 : ∀ k, k < n → b' k = b k) : uRel s' a' b' st P n = uRel s a b st P n := by
  funext u v
  refine propext (or_congr Iff.rfl ?_)
  constructor
  · rintro ⟨k, hk, r⟩
    refine ⟨k, hk, ?_⟩
    unfold uRn at r ⊢
    rw [← h1 k hk, ← h2 k hk, ← h3 k hk]; exact r
  · rintro ⟨k, hk, r⟩
    refine ⟨k, hk, ?_⟩
    unfold uRn at r ⊢
    rw [h1 k hk, h2 k hk, h3 k hk]; exact r
theorem uDrwD {s a b s' a' b' st f g : Nat → Int32} {n N : Nat} (h1 : ∀ k, k < n → s' k = s k) (h2 : ∀ k, k < n → a' k = a k) (h3 : ∀ k, k < n → b' k = b k) (d : uDrw s a b st n N f g) : uDrw s' a' b' st n N f g := by
  obtain ⟨i1, i2, i3⟩ := d
  refine ⟨?_, ?_, ?_⟩
  · rw [uRelD h1 h2 h3, uL0D n h1 h2 h3]; exact i1
  · rw [uRelD h1 h2 h3, uG0D n h1 h2 h3]; exact i2
  · intro p n' hp hn u v r
    refine i3 p n' hp hn u v ?_
    rw [← uRelD (fun k hk => h1 k (by omega)) (fun k hk => h2 k (by omega)) (fun k hk => h3 k (by omega))]
    exact r
theorem uCchA {s a b s' a' b' st f g : Nat → Int32} {d ag : Int32} {sz sz' : Nat} (h : uCch s a b st d f g ag sz) (hz : sz ≤ sz') (h1 : ∀ k, k < sz → s' k = s k) (h2 : ∀ k, k < sz → a' k = a k) (h3 : ∀ k, k < sz → b' k = b k) : uCch s' a' b' st d f g ag sz' := by
  refine ⟨h.1, h.2.imp id ?_⟩
  rintro ⟨n, hn, e, k1, k2, k3, k4, k5⟩
  refine ⟨n, by omega, e, ?_, uDrwD (fun k hk => h1 k (by omega)) (fun k hk => h2 k (by omega)) (fun k hk => h3 k (by omega)) k2, k3, k4, k5⟩
  rw [uStkC (fun k hk => h1 k (by omega)) (fun k hk => h2 k (by omega)) n (Nat.le_refl _)]
  exact k1
theorem uUpB {f f' : Nat → Int32} {D : Prop} {n : Nat} {x : Int32} (e : f' = uIte D (upd f n x) f) : ∀ k, k < n → f' k = f k := by
  intro k hk
  rw [e]
  by_cases d : D
  · rw [uItP d, pk_un (by omega)]
  · rw [uItN d]
theorem uW4 {w : Int32} (l : 0 ≤ w) (u : w ≤ 3) : w = 0 ∨ w = 1 ∨ w = 2 ∨ w = 3 := by
  simp only [fa_le, fa_eq, Int32.reduceToInt] at l u ⊢
  omega
theorem uWq0 {w : Int32} (l : 0 ≤ w) (u : w ≤ 3) (c : ¬ 2 ≤ w) (d : w - w / 2 * 2 = 0) : w = 0 := by
  rcases uW4 l u with e | e | e | e
  · exact e
  · rw [e] at d; exact absurd d (by decide)
  · rw [e] at c; exact absurd (by decide) c
  · rw [e] at c; exact absurd (by decide) c
theorem uWq1 {w : Int32} (l : 0 ≤ w) (u : w ≤ 3) (c : ¬ 2 ≤ w) (d : ¬ w - w / 2 * 2 = 0) : w = 1 := by
  rcases uW4 l u with e | e | e | e
  · rw [e] at d; exact absurd (by decide) d
  · exact e
  · rw [e] at c; exact absurd (by decide) c
  · rw [e] at c; exact absurd (by decide) c
theorem uWq2 {w : Int32} (l : 0 ≤ w) (u : w ≤ 3) (c : 2 ≤ w) (d : w - w / 2 * 2 = 0) : w = 2 := by
  rcases uW4 l u with e | e | e | e
  · rw [e] at c; exact absurd c (by decide)
  · rw [e] at c; exact absurd c (by decide)
  · exact e
  · rw [e] at d; exact absurd d (by decide)
theorem uWq3 {w : Int32} (l : 0 ≤ w) (u : w ≤ 3) (c : 2 ≤ w) (d : ¬ w - w / 2 * 2 = 0) : w = 3 := by
  rcases uW4 l u with e | e | e | e
  · rw [e] at c; exact absurd c (by decide)
  · rw [e] at c; exact absurd c (by decide)
  · rw [e] at d; exact absurd (by decide) d
  · exact e
theorem uAgS {M : Prop} {r ag A : Int32} (h : r = 1 ↔ M) (e : r = ag) (b : ag = 0 ∨ ag = 1) : uIte (ag = 0) 0 A = uIte M A 0 := by
  rcases b with b | b
  · rw [uItP b, uItN (fun q => by have := h.mpr q; rw [e, b] at this; exact absurd this (by decide))]
  · rw [uItN (by rw [b]; decide), uItP (h.mp (e.trans b))]
/-! what the law keeps -/
theorem uCchL {s a b st f g : Nat → Int32} {d d' ag : Int32} {sz sz' : Nat} {D : Prop} (h : uCch s a b st d f g ag sz) (ed : d' = uIte D (-1) d) (ez : sz' = uIte D 0 sz) : uCch s a b st d' f g ag sz' := by
  by_cases q : D
  · rw [uItP q] at ed
    exact ⟨h.1, Or.inl ed⟩
  · rw [uItN q] at ed ez
    rw [ed, ez]; exact h
theorem uIteLe {D : Prop} {k z : Nat} (e : z = uIte D (k + 1) k) : k ≤ z := by
  by_cases q : D
  · rw [uItP q] at e; omega
  · rw [uItN q] at e; omega
theorem uNpL {s a b : Nat → Int32} {m P m' P' : Nat} {D : Prop} (h : uNp s a b m P) (em : m' = uIte D 0 m) (ep : P' = uIte D 0 P) : uNp s a b m' P' := by
  by_cases q : D
  · rw [uItP q] at em
    intro k hk; rw [em] at hk; exact absurd hk (Nat.not_lt_zero k)
  · rw [uItN q] at em ep
    rw [em, ep]; exact h
theorem uNpP {s a b : Nat → Int32} {m P P' : Nat} {D : Prop} (h : uNp s a b m P) (ep : P' = uIte D (P + 1) P) : uNp s a b m P' := by
  have hp := uIteLe ep
  intro k hk
  obtain ⟨h1, h2⟩ := h k hk
  exact ⟨fun q => ⟨by have := (h1 q).1; omega, by have := (h1 q).2; omega⟩, fun q => by have := h2 q; omega⟩
theorem uNpN {s a b s' a' b' : Nat → Int32} {m m' P : Nat} {x y z : Int32} (h : uNp s a b m P) (em : m' = uIte (uDN x y z P m) (m + 1) m) (es : s' = uIte (uDN x y z P m) (upd s m x) s) (ea : a' = uIte (uDN x y z P m) (upd a m y) a) (eb : b' = uIte (uDN x y z P m) (upd b m z) b) : uNp s' a' b' m' P := by
  by_cases q : uDN x y z P m
  · rw [uItP q] at em es ea eb
    subst em es ea eb
    obtain ⟨q1, q2, q3, q4⟩ := q
    intro k hk
    by_cases e : k = m
    · subst e
      rw [pk_us, pk_us, pk_us]
      have hy : uN y < P := by unfold uN; omega
      refine ⟨fun r => ⟨hy, ?_⟩, fun _ => hy⟩
      have r' : x.toInt = 2 ∨ x.toInt = 3 := by
        rcases r with r | r
        · left; rw [r]; decide
        · right; rw [r]; decide
      rcases q3 with q3 | q3
      · unfold uN; omega
      · exact absurd r' q3.1
    · rw [pk_un e, pk_un e, pk_un e]; exact h k (by omega)
  · rw [uItN q] at em es ea eb
    subst em es ea eb
    exact h
theorem uNpS {s a b s' a' b' : Nat → Int32} {m m' P : Nat} {x : Int32} {D : Prop} (h : uNp s a b m P) (em : m' = uIte D (m + 1) m) (es : s' = uIte D (upd s m 6) s) (ea : a' = uIte D (upd a m x) a) (eb : b' = uIte D (upd b m 0) b) : uNp s' a' b' m' P := by
  by_cases q : D
  · rw [uItP q] at em es ea eb
    subst em es ea eb
    intro k hk
    by_cases e : k = m
    · subst e
      rw [pk_us, pk_us, pk_us]
      exact ⟨fun r => absurd r (by decide), fun r => absurd rfl r⟩
    · rw [pk_un e, pk_un e, pk_un e]; exact h k (by omega)
  · rw [uItN q] at em es ea eb
    subst em es ea eb
    exact h
/-! sets of posts as bits -/
def ukB (x : Int32) (q : Nat) : Prop := x.toBitVec.getLsbD q = true
theorem ukX {x y : Int32} (h : ∀ q, q < 32 → (ukB x q ↔ ukB y q)) : x = y := by
  refine Int32.toBitVec_inj.mp (BitVec.eq_of_getLsbD_eq (fun q hq => ?_))
  exact Bool.eq_iff_iff.mpr (h q hq)
theorem ukO {x y : Int32} {q : Nat} : ukB (x ||| y) q ↔ ukB x q ∨ ukB y q := by
  unfold ukB
  rw [Int32.toBitVec_or, BitVec.getLsbD_or, Bool.or_eq_true]
theorem ukA {x y : Int32} {q : Nat} : ukB (x &&& y) q ↔ ukB x q ∧ ukB y q := by
  unfold ukB
  rw [Int32.toBitVec_and, BitVec.getLsbD_and, Bool.and_eq_true]
theorem ukM1 : ∀ q : Nat, q < 32 → (-1 : Int32).toBitVec.getLsbD q = true := by decide +kernel
theorem ukC {x : Int32} {q : Nat} (hq : q < 32) : ukB (x ^^^ (-1)) q ↔ ¬ ukB x q := by
  unfold ukB
  rw [Int32.toBitVec_xor, BitVec.getLsbD_xor, ukM1 q hq]
  generalize x.toBitVec.getLsbD q = b
  cases b <;> decide
theorem ukLt {x : Int32} {q : Nat} (h : ukB x q) : q < 32 := by
  by_cases c : q < 32
  · exact c
  · unfold ukB at h
    rw [BitVec.getLsbD_of_ge _ _ (by omega)] at h
    exact absurd h (by decide)
theorem uk0 {q : Nat} : ¬ ukB 0 q := by
  unfold ukB
  simp
set_option maxRecDepth 100000 in
theorem ukSh : ∀ k : Nat, k < 32 → ∀ q : Nat, q < 32 → ((1 : Int32) <<< (nI k &&& 31)).toBitVec.getLsbD q = decide (q = k) := by decide +kernel
theorem uk1 {k q : Nat} (hk : k < 32) : ukB ((1 : Int32) <<< (nI k &&& 31)) q ↔ q = k := by
  by_cases c : q < 32
  · unfold ukB
    rw [ukSh k hk q c, decide_eq_true_eq]
  · exact ⟨fun h => absurd (ukLt h) c, fun h => absurd hk (by omega)⟩
theorem ukS2 {x : Int32} {k : Nat} (hk : k < 32) : ukB (x >>> (nI k &&& 31)) 0 ↔ ukB x k := by
  have h1 : (x >>> (nI k &&& 31)).toBitVec.getLsbD 0 = x.toBitVec.getLsbD k := by
    rw [Int32.toBitVec_shiftRight]
    unfold BitVec.sshiftRight'
    rw [uSmd k hk, BitVec.getLsbD_sshiftRight]
    simp only [Nat.add_zero]
    rw [if_pos hk]
    simp
  unfold ukB
  rw [h1]
theorem ukS1 {y : Int32} : y &&& 1 = 1 ↔ ukB y 0 := by
  have h2 : y &&& 1 = nI (y.toBitVec.toNat % 2 ^ 1) := pk_and y 1 (by decide)
  have h4 : y.toBitVec.getLsbD 0 = decide (y.toBitVec.toNat % 2 = 1) := by rw [← BitVec.testBit_toNat, Nat.testBit_zero]
  rw [h2]
  unfold ukB
  rw [h4, decide_eq_true_eq]
  exact nI_eq (a := y.toBitVec.toNat % 2) (b := 1) (by omega) (by omega)
theorem ukS0 {y : Int32} : y &&& 1 = 0 ↔ ¬ ukB y 0 := by
  have h2 : y &&& 1 = nI (y.toBitVec.toNat % 2 ^ 1) := pk_and y 1 (by decide)
  have h4 : y.toBitVec.getLsbD 0 = decide (y.toBitVec.toNat % 2 = 1) := by rw [← BitVec.testBit_toNat, Nat.testBit_zero]
  rw [h2]
  unfold ukB
  rw [h4, decide_eq_true_eq]
  have h5 := nI_eq (a := y.toBitVec.toNat % 2) (b := 0) (by omega) (by omega)
  constructor
  · intro h
    have h6 := h5.mp h
    omega
  · intro h
    exact h5.mpr (by omega)
theorem ukS {x : Int32} {k : Nat} (hk : k < 32) : x >>> (nI k &&& 31) &&& 1 = 1 ↔ ukB x k := ukS1.trans (ukS2 hk)
theorem ukSz {x : Int32} {k : Nat} (hk : k < 32) : x >>> (nI k &&& 31) &&& 1 = 0 ↔ ¬ ukB x k := ukS0.trans (not_congr (ukS2 hk))
theorem ukSS {x : Int32} {a b : Nat} (ha : a < 32) (hb : b < 32) : x >>> (nI a &&& 31) &&& x >>> (nI b &&& 31) &&& 1 = 1 ↔ ukB x a ∧ ukB x b := ukS1.trans (ukA.trans (and_congr (ukS2 ha) (ukS2 hb)))
noncomputable def ukSet (P : Nat → Prop) : Nat → Int32
  | 0 => 0
  | k + 1 => uIte (P k) (ukSet P k ||| (1 <<< (nI k &&& 31))) (ukSet P k)
theorem ukSetY {P : Nat → Prop} {k : Nat} {x : Int32} (e : x = ukSet P k) (h : P k) : x ||| (1 <<< (nI k &&& 31)) = ukSet P (k + 1) := by
  rw [e]; exact (uItP h).symm
theorem ukSetN {P : Nat → Prop} {k : Nat} {x : Int32} (e : x = ukSet P k) (h : ¬ P k) : x = ukSet P (k + 1) := e.trans (uItN h).symm
theorem ukSetB {P : Nat → Prop} {q : Nat} : ∀ n, n ≤ 32 → (ukB (ukSet P n) q ↔ q < n ∧ P q)
  | 0, _ => ⟨fun h => absurd h uk0, fun h => absurd h.1 (Nat.not_lt_zero _)⟩
  | n + 1, hn => by
    have ih := ukSetB (P := P) (q := q) n (by omega)
    by_cases c : P n
    · rw [← ukSetY rfl c, ukO, ih, uk1 (by omega)]
      constructor
      · rintro (h | h)
        · exact ⟨Nat.lt_succ_of_lt h.1, h.2⟩
        · rw [h]; exact ⟨Nat.lt_succ_self n, c⟩
      · rintro ⟨h, k⟩
        by_cases e : q = n
        · exact Or.inr e
        · exact Or.inl ⟨by omega, k⟩
    · rw [← ukSetN rfl c, ih]
      constructor
      · rintro ⟨h, k⟩; exact ⟨Nat.lt_succ_of_lt h, k⟩
      · rintro ⟨h, k⟩
        have e : q ≠ n := fun e => c (e ▸ k)
        exact ⟨by omega, k⟩
theorem ukSetX {P Q : Nat → Prop} {n : Nat} (hn : n ≤ 32) (h : ∀ q, q < n → (P q ↔ Q q)) : ukSet P n = ukSet Q n := by
  refine ukX (fun q _ => ?_)
  rw [ukSetB n hn, ukSetB n hn]
  exact ⟨fun k => ⟨k.1, (h q k.1).mp k.2⟩, fun k => ⟨k.1, (h q k.1).mpr k.2⟩⟩
/-- a set among the twelve -/
def ukL (x : Int32) : Prop := ∀ q, ukB x q → q < 12
theorem ukLS {P : Nat → Prop} {n : Nat} (hn : n ≤ 12) : ukL (ukSet P n) := fun q h => by
  have k := ((ukSetB n (by omega)).mp h).1
  omega
theorem ukL0 : ukL 0 := fun _ h => absurd h uk0
theorem ukLO {x y : Int32} (h : ukL x) (k : ukL y) : ukL (x ||| y) := fun q r => (ukO.mp r).elim (h q) (k q)
theorem ukLA {x y : Int32} (h : ukL x) : ukL (x &&& y) := fun q r => h q (ukA.mp r).1
theorem ukL1 {k : Nat} (hk : k < 12) : ukL (1 <<< (nI k &&& 31)) := fun q r => by
  have e := (uk1 (by omega)).mp r
  omega
theorem ukLn {x : Int32} (h : ukL x) : ∃ n : Nat, n < 4096 ∧ x = nI n := by
  refine ⟨x.toBitVec.toNat, ?_, ?_⟩
  · refine Nat.lt_pow_two_of_testBit (n := 12) _ (fun i hi => ?_)
    rw [BitVec.testBit_toNat]
    by_cases c : x.toBitVec.getLsbD i = true
    · exact absurd (h i c) (by omega)
    · exact Bool.eq_false_iff.mpr c
  · exact Int32.toBitVec_inj.mp (BitVec.eq_of_toNat_eq (pk_tn x.toBitVec.isLt).symm)
theorem ukNb {n q : Nat} (h : n < 2 ^ 32) : ukB (nI n) q ↔ n.testBit q = true := by
  unfold ukB
  rw [← BitVec.testBit_toNat, pk_tn h]
/-! the least bit -/
def ukMk (n : Nat) : Nat := (n ^^^ (n - 1)) / 2
def ukMc (n : Nat) : Bool := decide (((nI n) ^^^ (-1)) &&& (nI (n - 1)) = nI (ukMk n)) && decide (ukMk n < 4096)
set_option maxRecDepth 100000 in
theorem ukMc0 : ∀ a : Nat, a < 64 → ∀ b : Nat, b < 64 → (64 * a + b = 0 ∨ ukMc (64 * a + b) = true) := by decide +kernel
theorem ukMkE {n : Nat} (h : n < 4096) (h1 : 1 ≤ n) : ((nI n) ^^^ (-1)) &&& (nI (n - 1)) = nI (ukMk n) ∧ ukMk n < 4096 := by
  have q := ukMc0 (n / 64) (by omega) (n % 64) (by omega)
  rw [show 64 * (n / 64) + n % 64 = n by omega] at q
  rcases q with q | q
  · omega
  · unfold ukMc at q
    rw [Bool.and_eq_true, decide_eq_true_eq, decide_eq_true_eq] at q
    exact q
def ukT3 (i m : Nat) : Nat := if 4 < i then m + 2 + i / 4 / 2 else m + i / 2
def ukT2 (i m : Nat) : Nat := if 16 < i then ukT3 (i / 16) (m + 4) else ukT3 i m
def ukTz (n : Nat) : Nat := if 0 < ukMk n then (if 256 < ukMk n then ukT2 (ukMk n / 256) 9 else ukT2 (ukMk n) 1) else 0
def ukTc (n : Nat) : Bool := decide (ukTz n < 12) && (n.testBit (ukTz n) && (List.range 12).all (fun q => (n &&& (n - 1)).testBit q == (n.testBit q && !(q == ukTz n))))
set_option maxRecDepth 100000 in
theorem ukTc0 : ∀ a : Nat, a < 64 → ∀ b : Nat, b < 64 → (64 * a + b = 0 ∨ ukTc (64 * a + b) = true) := by decide +kernel
theorem ukAndN : ∀ n : Nat, n < 4096 → nI n &&& nI (n - 1) = nI (n &&& (n - 1)) := by
  intro n h
  refine Int32.toBitVec_inj.mp (BitVec.eq_of_toNat_eq ?_)
  have h2 : n &&& (n - 1) ≤ n := Nat.and_le_left
  rw [Int32.toBitVec_and, BitVec.toNat_and, pk_tn (by omega), pk_tn (by omega), pk_tn (by omega)]
theorem ukTzF {n : Nat} (h : n < 4096) (h1 : 1 ≤ n) : ukTz n < 12 ∧ ukB (nI n) (ukTz n) ∧ ∀ q, ukB (nI n &&& nI (n - 1)) q ↔ ukB (nI n) q ∧ q ≠ ukTz n := by
  have q := ukTc0 (n / 64) (by omega) (n % 64) (by omega)
  rw [show 64 * (n / 64) + n % 64 = n by omega] at q
  rcases q with q | q
  · omega
  · unfold ukTc at q
    rw [Bool.and_eq_true, Bool.and_eq_true, decide_eq_true_eq, List.all_eq_true] at q
    obtain ⟨q1, q2, q3⟩ := q
    refine ⟨q1, (ukNb (by omega)).mpr q2, fun r => ?_⟩
    by_cases c : r < 12
    · have q4 := q3 r (List.mem_range.mpr c)
      have h2 : n &&& (n - 1) ≤ n := Nat.and_le_left
      rw [ukAndN n h, ukNb (by omega), ukNb (by omega), beq_iff_eq.mp q4]
      rw [Bool.and_eq_true, Bool.not_eq_true', beq_eq_false_iff_ne]
    · have z : ¬ ukB (nI n) r := fun k => by
        rw [ukNb (by omega), Nat.testBit_lt_two_pow (Nat.lt_of_lt_of_le h (show 2 ^ 12 ≤ 2 ^ r from Nat.pow_le_pow_right (by decide) (by omega)))] at k
        exact absurd k (by decide)
      exact ⟨fun k => absurd (ukA.mp k).1 z, fun k => absurd k.1 z⟩
/-! what rows of joined posts lead to -/
def ukCl (S : Nat → Prop) (R : Nat → Nat → Prop) (q : Nat) : Prop := ∀ X : Nat → Prop, (∀ p, S p → X p) → (∀ p r, X p → R p r → X r) → X q
theorem ukCl0 {S : Nat → Prop} {R : Nat → Nat → Prop} {q : Nat} (h : S q) : ukCl S R q := fun X h1 _ => h1 q h
theorem ukClR {S : Nat → Prop} {R : Nat → Nat → Prop} {p q : Nat} (h : ukCl S R p) (k : R p q) : ukCl S R q := fun X h1 h2 => h2 p q (h X h1 h2) k
theorem ukClS {S S' : Nat → Prop} {R : Nat → Nat → Prop} (h : ∀ p, S p ↔ S' p) : ukCl S R = ukCl S' R := by
  rw [show S = S' from funext fun p => propext (h p)]
theorem ukClE {S M : Nat → Prop} {R R' : Nat → Nat → Prop} (hS : ∀ p, S p → M p) (h : ∀ p q, M p → (R p q ↔ R' p q)) (hM : ∀ p q, M p → R p q → M q) (q : Nat) : ukCl S R q ↔ ukCl S R' q := by
  constructor
  · intro k X h1 h2
    exact (k (fun p => X p ∧ M p) (fun p hp => ⟨h1 p hp, hS p hp⟩) (fun p r hx hr => ⟨h2 p r hx.1 ((h p r hx.2).mp hr), hM p r hx.2 hr⟩)).1
  · intro k X h1 h2
    exact (k (fun p => X p ∧ M p) (fun p hp => ⟨h1 p hp, hS p hp⟩) (fun p r hx hr => ⟨h2 p r hx.1 ((h p r hx.2).mpr hr), hM p r hx.2 ((h p r hx.2).mpr hr)⟩)).1
def ukR (n : Nat) (near : Nat → Int32) (M : Int32) (p q : Nat) : Prop := p < n ∧ ukB (near p) q ∧ ukB M q
/-- how many below n -/
noncomputable def ukK (P : Nat → Prop) : Nat → Nat
  | 0 => 0
  | k + 1 => uIte (P k) (ukK P k + 1) (ukK P k)
theorem ukKY {P : Nat → Prop} {k : Nat} (h : P k) : ukK P (k + 1) = ukK P k + 1 := uItP h
theorem ukKN {P : Nat → Prop} {k : Nat} (h : ¬ P k) : ukK P (k + 1) = ukK P k := uItN h
theorem ukKle {P : Nat → Prop} : ∀ n, ukK P n ≤ n
  | 0 => Nat.le_refl _
  | n + 1 => by
    have ih := ukKle (P := P) n
    by_cases c : P n
    · rw [ukKY c]; omega
    · rw [ukKN c]; omega
theorem ukKm {P Q : Nat → Prop} (h : ∀ p, P p → Q p) : ∀ n, ukK P n ≤ ukK Q n
  | 0 => Nat.le_refl _
  | n + 1 => by
    have ih := ukKm h n
    by_cases c : P n
    · rw [ukKY c, ukKY (h n c)]; omega
    · rw [ukKN c]
      by_cases d : Q n
      · rw [ukKY d]; omega
      · rw [ukKN d]; exact ih
theorem ukKs {P Q : Nat → Prop} {p : Nat} (h : ∀ q, P q → Q q) (h1 : ¬ P p) (h2 : Q p) : ∀ n, p < n → ukK P n + 1 ≤ ukK Q n
  | 0, hp => absurd hp (Nat.not_lt_zero _)
  | n + 1, hp => by
    by_cases e : p = n
    · subst e
      have ih := ukKm h p
      rw [ukKN h1, ukKY h2]; omega
    · have ih := ukKs h h1 h2 n (by omega)
      by_cases c : P n
      · rw [ukKY c, ukKY (h n c)]; omega
      · rw [ukKN c]
        by_cases d : Q n
        · rw [ukKY d]; omega
        · rw [ukKN d]; exact ih
theorem ukKf {P : Nat → Prop} : ∀ n, n ≤ ukK P n → ∀ p, p < n → P p
  | 0, _ => fun p hp => absurd hp (Nat.not_lt_zero _)
  | n + 1, hn => by
    intro p hp
    by_cases c : P n
    · rw [ukKY c] at hn
      by_cases e : p = n
      · rw [e]; exact c
      · exact ukKf n (by omega) p (by omega)
    · rw [ukKN c] at hn
      have := ukKle (P := P) n
      omega
/-- the class's walk: reached r, fresh f, t turns -/
def ukI (S : Int32) (near : Nat → Int32) (M r f : Int32) (t : Nat) : Prop :=
  ukL r ∧ (∀ q, ukB f q → ukB r q) ∧ (∀ q, ukB S q → ukB r q) ∧ (∀ q, ukB r q → ukCl (ukB S) (ukR 12 near M) q) ∧ (∀ p q, ukB r p → ¬ ukB f p → ukR 12 near M p q → ukB r q) ∧ t ≤ ukK (fun p => ukB r p ∧ ¬ ukB f p) 12
theorem ukI0 {S M : Int32} {near : Nat → Int32} (h : ukL S) : ukI S near M S S 0 :=
  ⟨h, fun _ k => k, fun _ k => k, fun _ k => ukCl0 k, fun p q k1 k2 _ => absurd k1 k2, Nat.zero_le _⟩
theorem ukIL {S M r f : Int32} {near : Nat → Int32} {t : Nat} (h : ukI S near M r f t) : ukL f := fun q k => h.1 q (h.2.1 q k)
theorem ukIS {S M r f : Int32} {near : Nat → Int32} {t n : Nat} (h : ukI S near M r f t) (hM : ukL M) (hn : n < 4096) (h1 : 1 ≤ n) (ef : f = nI n) : ukI S near M (r ||| (near (ukTz n) &&& M &&& (r ^^^ (-1)))) ((nI n &&& nI (n - 1)) ||| (near (ukTz n) &&& M &&& (r ^^^ (-1)))) (t + 1) := by
  obtain ⟨i1, i2, i3, i4, i5, i6⟩ := h
  obtain ⟨z1, z2, z3⟩ := ukTzF hn h1
  rw [← ef] at z2
  have hm : ∀ q, ukB (near (ukTz n) &&& M &&& (r ^^^ (-1))) q ↔ ((ukB (near (ukTz n)) q ∧ ukB M q) ∧ ¬ ukB r q) := by
    intro q
    rw [ukA, ukA]
    constructor
    · rintro ⟨a, b⟩
      exact ⟨a, (ukC (ukLt b)).mp b⟩
    · rintro ⟨a, b⟩
      exact ⟨a, (ukC (ukLt a.1)).mpr b⟩
  have hr : ∀ q, ukB (r ||| (near (ukTz n) &&& M &&& (r ^^^ (-1)))) q ↔ (ukB r q ∨ ((ukB (near (ukTz n)) q ∧ ukB M q) ∧ ¬ ukB r q)) := fun q => by rw [ukO, hm]
  have hf : ∀ q, ukB ((nI n &&& nI (n - 1)) ||| (near (ukTz n) &&& M &&& (r ^^^ (-1)))) q ↔ ((ukB f q ∧ q ≠ ukTz n) ∨ ((ukB (near (ukTz n)) q ∧ ukB M q) ∧ ¬ ukB r q)) := fun q => by rw [ukO, hm, z3, ← ef]
  refine ⟨?_, ?_, ?_, ?_, ?_, ?_⟩
  · intro q k
    rcases (hr q).mp k with k | k
    · exact i1 q k
    · exact hM q k.1.2
  · intro q k
    rcases (hf q).mp k with k | k
    · exact (hr q).mpr (Or.inl (i2 q k.1))
    · exact (hr q).mpr (Or.inr k)
  · intro q k
    exact (hr q).mpr (Or.inl (i3 q k))
  · intro q k
    rcases (hr q).mp k with k | k
    · exact i4 q k
    · exact ukClR (i4 (ukTz n) (i2 _ z2)) ⟨z1, k.1.1, k.1.2⟩
  · intro p q k1 k2 k3
    have k2' : ¬ ((ukB f p ∧ p ≠ ukTz n) ∨ ((ukB (near (ukTz n)) p ∧ ukB M p) ∧ ¬ ukB r p)) := fun c => k2 ((hf p).mpr c)
    rcases (hr p).mp k1 with c | c
    · by_cases d : ukB f p
      · have e : p = ukTz n := Classical.byContradiction (fun e => k2' (Or.inl ⟨d, e⟩))
        rw [e] at k3
        by_cases g : ukB r q
        · exact (hr q).mpr (Or.inl g)
        · exact (hr q).mpr (Or.inr ⟨⟨k3.2.1, k3.2.2⟩, g⟩)
      · exact (hr q).mpr (Or.inl (i5 p q c d k3))
    · exact absurd (Or.inr c) k2'
  · refine Nat.le_trans (Nat.succ_le_succ i6) (ukKs (p := ukTz n) ?_ (fun k => k.2 z2) ?_ 12 z1)
    · rintro q ⟨k1, k2⟩
      refine ⟨(hr q).mpr (Or.inl k1), fun k => ?_⟩
      rcases (hf q).mp k with c | c
      · exact k2 c.1
      · exact c.2 k1
    · refine ⟨(hr _).mpr (Or.inl (i2 _ z2)), fun k => ?_⟩
      rcases (hf _).mp k with c | c
      · exact c.2 rfl
      · exact c.2 (i2 _ z2)
theorem ukIE {S M r f : Int32} {near : Nat → Int32} {t : Nat} (h : ukI S near M r f t) (hf : f = 0 ∨ 12 ≤ t) : r = ukSet (ukCl (ukB S) (ukR 12 near M)) 12 := by
  obtain ⟨i1, i2, i3, i4, i5, i6⟩ := h
  have z : ∀ q, ¬ ukB f q := by
    rcases hf with e | e
    · intro q k; rw [e] at k; exact uk0 k
    · intro q k
      have k2 := i2 q k
      exact (ukKf 12 (Nat.le_trans e i6) q (i1 q k2)).2 k
  refine ukX (fun q _ => ?_)
  rw [ukSetB 12 (by omega)]
  constructor
  · intro k; exact ⟨i1 q k, i4 q k⟩
  · rintro ⟨_, k⟩
    exact k (ukB r) i3 (fun p s hp hs => i5 p s hp (z p) hs)
/-- the model's walk: was w, seen r; those below j looked at -/
def ukQ (S : Nat → Prop) (R : Nat → Nat → Prop) (w r : Int32) (j : Nat) : Prop :=
  (∀ q, S q → ukB r q) ∧ (∀ q, ukB r q → ukCl S R q) ∧ (∀ q, ukB w q → ukB r q) ∧ (∀ p q, p < j → ukB w p → R p q → ukB r q)
theorem ukQ0 {R : Nat → Nat → Prop} {a j : Nat} (ha : a < 32) : ukQ (fun p => p = a) R 0 (1 <<< (nI a &&& 31)) j :=
  ⟨fun q h => (uk1 ha).mpr h, fun q h => ukCl0 ((uk1 ha).mp h), fun q h => absurd h uk0, fun p q _ h _ => absurd h uk0⟩
theorem ukQB {S : Nat → Prop} {R : Nat → Nat → Prop} {w r : Int32} {j : Nat} (h : ukQ S R w r j) : ukQ S R r r 0 :=
  ⟨h.1, h.2.1, fun _ k => k, fun p q k _ _ => absurd k (Nat.not_lt_zero _)⟩
theorem ukQY {S : Nat → Prop} {near : Nat → Int32} {M w r : Int32} {n j : Nat} (h : ukQ S (ukR n near M) w r j) (hj : j < n) (c : ukB r j) : ukQ S (ukR n near M) w (r ||| (near j &&& M)) (j + 1) := by
  obtain ⟨h1, h2, h3, h4⟩ := h
  refine ⟨fun q k => ukO.mpr (Or.inl (h1 q k)), fun q k => ?_, fun q k => ukO.mpr (Or.inl (h3 q k)), fun p q k1 k2 k3 => ?_⟩
  · rcases ukO.mp k with k | k
    · exact h2 q k
    · have k := ukA.mp k
      exact ukClR (h2 j c) ⟨hj, k.1, k.2⟩
  · by_cases e : p = j
    · subst e
      exact ukO.mpr (Or.inr (ukA.mpr ⟨k3.2.1, k3.2.2⟩))
    · exact ukO.mpr (Or.inl (h4 p q (by omega) k2 k3))
theorem ukQN {S : Nat → Prop} {R : Nat → Nat → Prop} {w r : Int32} {j : Nat} (h : ukQ S R w r j) (c : ¬ ukB r j) : ukQ S R w r (j + 1) := by
  obtain ⟨h1, h2, h3, h4⟩ := h
  refine ⟨h1, h2, h3, fun p q k1 k2 k3 => ?_⟩
  by_cases e : p = j
  · subst e; exact absurd (h3 p k2) c
  · exact h4 p q (by omega) k2 k3
theorem ukQn {S : Nat → Prop} {R : Nat → Nat → Prop} {w r : Int32} {j i : Nat} (h : ukQ S R w r j) (hi : i ≤ j) : ukQ S R w r i :=
  ⟨h.1, h.2.1, h.2.2.1, fun p q k1 k2 k3 => h.2.2.2 p q (by omega) k2 k3⟩
theorem ukQE {S : Nat → Prop} {near : Nat → Int32} {M w r : Int32} {n : Nat} (h : ukQ S (ukR n near M) w r n) (hw : w = r) (hM : ukL M) (hS : ∀ p, S p → p < 12) : r = ukSet (ukCl S (ukR n near M)) 12 := by
  obtain ⟨h1, h2, h3, h4⟩ := h
  subst hw
  refine ukX (fun q _ => ?_)
  rw [ukSetB 12 (by omega)]
  constructor
  · intro k
    refine ⟨?_, h2 q k⟩
    exact h2 q k (fun p => p < 12) hS (fun p s _ hs => hM s hs.2.2)
  · rintro ⟨_, k⟩
    exact k (ukB w) h1 (fun p s hp hs => h4 p s hs.1 hp hs)
/-! groups -/
noncomputable def ukW (n : Nat) (near : Nat → Int32) (M : Int32) (p : Nat) : Int32 := ukSet (ukCl (fun q => q = p) (ukR n near M)) 12
noncomputable def ukG (R : Nat → Int32) (M : Int32) : Nat → Int32 × Nat
  | 0 => (M, 0)
  | j + 1 => uIte (ukB (ukG R M j).1 j) ((ukG R M j).1 &&& ((R j) ^^^ (-1)), (ukG R M j).2 + 1) (ukG R M j)
theorem ukGY {R : Nat → Int32} {M : Int32} {j : Nat} (h : ukB (ukG R M j).1 j) : ukG R M (j + 1) = ((ukG R M j).1 &&& ((R j) ^^^ (-1)), (ukG R M j).2 + 1) := uItP h
theorem ukGN {R : Nat → Int32} {M : Int32} {j : Nat} (h : ¬ ukB (ukG R M j).1 j) : ukG R M (j + 1) = ukG R M j := uItN h
theorem ukGle {R : Nat → Int32} {M : Int32} : ∀ j, (ukG R M j).2 ≤ j
  | 0 => Nat.le_refl _
  | j + 1 => by
    have ih := ukGle (R := R) (M := M) j
    by_cases c : ukB (ukG R M j).1 j
    · rw [ukGY c]; exact Nat.succ_le_succ ih
    · rw [ukGN c]; omega
noncomputable def ukGr (n : Nat) (near : Nat → Int32) (M : Int32) : Nat := (ukG (ukW n near M) M n).2
theorem ukWc {near : Nat → Int32} {M : Int32} {p : Nat} (hp : p < 32) : ukSet (ukCl (ukB (1 <<< (nI p &&& 31))) (ukR 12 near M)) 12 = ukW 12 near M p := by
  unfold ukW
  rw [ukClS (fun q => uk1 hp)]
/-- cuts -/
noncomputable def ukCu (n : Nat) (near : Nat → Int32) (F : Int32) (p : Nat) : Prop := ukB F p ∧ ukGr n near F < ukGr n near (F &&& ((1 <<< (nI p &&& 31)) ^^^ (-1)))
/-- two tables of neighbours, alike among those of F -/
def ukE (n : Nat) (near near' : Nat → Int32) (F : Int32) : Prop := ∀ p q, ukB F p → ukB F q → (ukB (near p) q ↔ ukB (near' p) q)
def ukT (N : Nat) (near : Nat → Int32) (V : Nat → Nat → Prop) : Prop := ∀ p q, p < N → (ukB (near p) q ↔ V p q ∨ V q p)
def ukTi (near near' : Nat → Int32) (i j : Nat) (D : Prop) : Prop := ∀ p q, (ukB (near' p) q ↔ ukB (near p) q ∨ (D ∧ (p = i ∧ q = j ∨ p = j ∧ q = i)))
theorem ukTiN {near : Nat → Int32} {i j : Nat} {D : Prop} (h : ¬ D) : ukTi near near i j D := fun p q => ⟨Or.inl, fun k => k.elim id (fun k => absurd k.1 h)⟩
theorem ukTiY {near : Nat → Int32} {i j : Nat} {D : Prop} (h : D) (hi : i < 32) (hj : j < 32) : ukTi near (upd (upd near i (near i ||| (1 <<< (nI j &&& 31)))) j ((upd near i (near i ||| (1 <<< (nI j &&& 31)))) j ||| (1 <<< (nI i &&& 31)))) i j D := by
  intro p q
  have h1 : ∀ p, ukB ((upd near i (near i ||| (1 <<< (nI j &&& 31)))) p) q ↔ ukB (near p) q ∨ (p = i ∧ q = j) := by
    intro p
    by_cases c : p = i
    · subst c
      rw [pk_us, ukO, uk1 hj]
      exact ⟨fun k => k.imp id (fun e => ⟨rfl, e⟩), fun k => k.imp id (fun e => e.2)⟩
    · rw [pk_un c]
      exact ⟨Or.inl, fun k => k.elim id (fun e => absurd e.1 c)⟩
  by_cases c : p = j
  · subst c
    rw [pk_us, ukO, uk1 hi, h1]
    constructor
    · rintro ((k | k) | k)
      · exact Or.inl k
      · exact Or.inr ⟨h, Or.inl k⟩
      · exact Or.inr ⟨h, Or.inr ⟨rfl, k⟩⟩
    · rintro (k | ⟨_, k | k⟩)
      · exact Or.inl (Or.inl k)
      · exact Or.inl (Or.inr k)
      · exact Or.inr k.2
  · rw [pk_un c, h1]
    constructor
    · rintro (k | k)
      · exact Or.inl k
      · exact Or.inr ⟨h, Or.inl k⟩
    · rintro (k | ⟨_, k | k⟩)
      · exact Or.inl k
      · exact Or.inr k
      · exact absurd k.1 c
theorem ukTW {N : Nat} {near : Nat → Int32} {V V' : Nat → Nat → Prop} (h : ukT N near V) (w : ∀ a b, V a b ↔ V' a b) : ukT N near V' := fun p q hp => by
  rw [h p q hp, w p q, w q p]
theorem ukTS {N i j : Nat} {near near' : Nat → Int32} {V V' : Nat → Nat → Prop} {D : Prop} (h : ukT N near V) (t : ukTi near near' i j D) (w : ∀ a b, V' a b ↔ V a b ∨ (D ∧ a = i ∧ b = j)) : ukT N near' V' := by
  intro p q hp
  rw [t p q, h p q hp, w p q, w q p]
  constructor
  · rintro ((k | k) | ⟨d, k | k⟩)
    · exact Or.inl (Or.inl k)
    · exact Or.inr (Or.inl k)
    · exact Or.inl (Or.inr ⟨d, k.1, k.2⟩)
    · exact Or.inr (Or.inr ⟨d, k.2, k.1⟩)
  · rintro ((k | ⟨d, k1, k2⟩) | (k | ⟨d, k1, k2⟩))
    · exact Or.inl (Or.inl k)
    · exact Or.inr ⟨d, Or.inl ⟨k1, k2⟩⟩
    · exact Or.inl (Or.inr k)
    · exact Or.inr ⟨d, Or.inr ⟨k2, k1⟩⟩
/-- those looked at: class, model -/
def ukVc (n i j : Nat) (L : Nat → Nat → Prop) (a b : Nat) : Prop := a < b ∧ b < n ∧ (a < i ∨ a = i ∧ b < j) ∧ L a b
def ukVm (n i j : Nat) (L : Nat → Nat → Prop) (a b : Nat) : Prop := b < a ∧ a < n ∧ (a < i ∨ a = i ∧ b < j) ∧ L a b
theorem ukVc0 {n : Nat} {near : Nat → Int32} {L : Nat → Nat → Prop} (h : uFl 12 near 0) : ukT 12 near (ukVc n 0 0 L) := by
  intro p q hp
  rw [h p hp]
  refine ⟨fun k => absurd k uk0, ?_⟩
  rintro (⟨_, _, k, _⟩ | ⟨_, _, k, _⟩) <;> exact absurd k (by omega)
theorem ukVm0 {n m : Nat} {near : Nat → Int32} {L : Nat → Nat → Prop} (h : uFl m near 0) (hm : n ≤ m) : ukT n near (ukVm n 0 0 L) := by
  intro p q hp
  rw [h p (by omega)]
  refine ⟨fun k => absurd k uk0, ?_⟩
  rintro (⟨_, _, k, _⟩ | ⟨_, _, k, _⟩) <;> exact absurd k (by omega)
theorem ukVcI {N n i : Nat} {near : Nat → Int32} {L : Nat → Nat → Prop} (h : ukT N near (ukVc n i 0 L)) : ukT N near (ukVc n i (i + 1) L) := by
  refine ukTW h (fun a b => ?_)
  unfold ukVc
  constructor
  · rintro ⟨k1, k2, k3, k4⟩; exact ⟨k1, k2, by omega, k4⟩
  · rintro ⟨k1, k2, k3, k4⟩; exact ⟨k1, k2, by omega, k4⟩
theorem ukVcO {N n i j : Nat} {near : Nat → Int32} {L : Nat → Nat → Prop} (h : ukT N near (ukVc n i j L)) (hj : n ≤ j) : ukT N near (ukVc n (i + 1) 0 L) := by
  refine ukTW h (fun a b => ?_)
  unfold ukVc
  constructor
  · rintro ⟨k1, k2, k3, k4⟩; exact ⟨k1, k2, by omega, k4⟩
  · rintro ⟨k1, k2, k3, k4⟩; exact ⟨k1, k2, by omega, k4⟩
theorem ukVmO {N n i j : Nat} {near : Nat → Int32} {L : Nat → Nat → Prop} (h : ukT N near (ukVm n i j L)) (hj : i ≤ j) : ukT N near (ukVm n (i + 1) 0 L) := by
  refine ukTW h (fun a b => ?_)
  unfold ukVm
  constructor
  · rintro ⟨k1, k2, k3, k4⟩; exact ⟨k1, k2, by omega, k4⟩
  · rintro ⟨k1, k2, k3, k4⟩; exact ⟨k1, k2, by omega, k4⟩
theorem ukVcS {N n i j : Nat} {near near' : Nat → Int32} {L : Nat → Nat → Prop} {D : Prop} (h : ukT N near (ukVc n i j L)) (t : ukTi near near' i j D) (hi : i < j) (hj : j < n) (e : L i j ↔ D) : ukT N near' (ukVc n i (j + 1) L) := by
  refine ukTS h t (fun a b => ?_)
  unfold ukVc
  constructor
  · rintro ⟨k1, k2, k3, k4⟩
    by_cases c : a = i ∧ b = j
    · exact Or.inr ⟨e.mp (by rw [← c.1, ← c.2]; exact k4), c.1, c.2⟩
    · exact Or.inl ⟨k1, k2, by omega, k4⟩
  · rintro (⟨k1, k2, k3, k4⟩ | ⟨d, k1, k2⟩)
    · exact ⟨k1, k2, by omega, k4⟩
    · rw [k1, k2]; exact ⟨hi, hj, by omega, e.mpr d⟩
theorem ukVmS {N n i j : Nat} {near near' : Nat → Int32} {L : Nat → Nat → Prop} {D : Prop} (h : ukT N near (ukVm n i j L)) (t : ukTi near near' i j D) (hi : j < i) (hj : i < n) (e : L i j ↔ D) : ukT N near' (ukVm n i (j + 1) L) := by
  refine ukTS h t (fun a b => ?_)
  unfold ukVm
  constructor
  · rintro ⟨k1, k2, k3, k4⟩
    by_cases c : a = i ∧ b = j
    · exact Or.inr ⟨e.mp (by rw [← c.1, ← c.2]; exact k4), c.1, c.2⟩
    · exact Or.inl ⟨k1, k2, by omega, k4⟩
  · rintro (⟨k1, k2, k3, k4⟩ | ⟨d, k1, k2⟩)
    · exact ⟨k1, k2, by omega, k4⟩
    · rw [k1, k2]; exact ⟨hi, hj, by omega, e.mpr d⟩
theorem ukTiF {near : Nat → Int32} {i j : Nat} : ukTi near near i j False := ukTiN id
/-- who is linked, at which level -/
noncomputable def ukLc (h w t1 t2 : Nat → Int32) (bd : Int32) (f g cl lo hg wo be : Nat → Int32) (a b m k : Nat) : Int32 := uLv (uRe f g a b (wo (m * 2 + k))) (uFc h w t1 t2 bd f g cl lo hg a b 1) (uRe f g a b (be (m * 2 + k))) (uFc h w t1 t2 bd f g cl lo hg a b 0)
noncomputable def ukLm (h w t1 t2 : Nat → Int32) (bd : Int32) (f g lo hg : Nat → Int32) (W : Nat) (wo be : Nat → Int32) (a b m k : Nat) : Int32 := uLv (uRe f g a b (wo (2 * m + k))) (uFm h w t1 t2 bd f g lo hg W a b 1) (uRe f g a b (be (2 * m + k))) (uFm h w t1 t2 bd f g lo hg W a b 0)
def ukMi (x y : Int32) : Int32 := if y < x then y else x
theorem ukMiS (x y : Int32) : ukMi x y = ukMi y x := by
  unfold ukMi
  by_cases h : y < x
  · rw [if_pos h, if_neg (fun k => by simp only [fa_lt] at h k; omega)]
  · rw [if_neg h]
    by_cases k : x < y
    · rw [if_pos k]
    · rw [if_neg k]
      simp only [fa_lt] at h k
      rw [fa_eq]
      omega
theorem uLv3 {A A' : Prop} {F F' : Nat} : uLv A F A' F' = 0 ∨ uLv A F A' F' = 1 ∨ uLv A F A' F' = 2 := by
  unfold uLv
  by_cases h : A ∧ F = 0
  · rw [uItP h]; exact Or.inr (Or.inr rfl)
  · rw [uItN h]
    by_cases k : A' ∧ F' = 0
    · rw [uItP k]; exact Or.inr (Or.inl rfl)
    · rw [uItN k]; exact Or.inl rfl
theorem ukMi0 {x y : Int32} (h : x = 0) (k : y = 0 ∨ y = 1 ∨ y = 2) : 0 = ukMi x y := by
  unfold ukMi
  rw [h]
  rcases k with k | k | k <;> rw [k] <;> decide
theorem ukLcE {h w hm wm t1 t2 f g cl lo hg wo be : Nat → Int32} {bd : Int32} {W H n a b m k : Nat} (hW : W ≤ 16) (hH : H ≤ 16) (rw_ : uRg w 0 3) (rf : uRg f 0 15) (rg : uRg g 0 15) (r1 : uTg t1) (r2 : uTg t2) (hb0 : 0 ≤ bd.toInt) (hb1 : bd.toInt ≤ 999) (hh : uHW h w hm wm W H) (hp : uPo f g cl lo hg n W H) (ha : a < n) (hb : b < n) : ukLc h w t1 t2 bd f g cl lo hg wo be a b m k = ukLm hm wm t1 t2 bd f g lo hg W wo be a b m k := by
  unfold ukLc ukLm
  rw [uFE hW hH rw_ rf rg r1 r2 hb0 hb1 hh hp ha hb, uFE hW hH rw_ rf rg r1 r2 hb0 hb1 hh hp ha hb, Nat.mul_comm 2 m]
/-! the line of posts as drawn -/
def ukDr (s a b : Nat → Int32) (nn N : Nat) (st f g : Nat → Int32) (ag : Int32) : Prop := uAg nn st (uStk s a nn nn) ∧ uDrw s a b st nn N f g ∧ uR24 f ∧ uR24 g ∧ (ag = 0 ∨ ag = 1) ∧ (ag = 1 ↔ uMt N f g)
noncomputable def ukPc (S : Nat → Int32) (k y lv ag : Int32) (f g : Nat → Int32) (p : Nat) : Prop := S p = k ∧ ¬ uIte (ag = 0) 0 (uSa y f g p) < lv
noncomputable def ukPm (S : Nat → Int32) (k y lv ag : Int32) (f g : Nat → Int32) (p : Nat) : Prop := S p = k ∧ ¬ ag = 0 ∧ ¬ uSa y f g p < lv
noncomputable def ukC2 (S : Nat → Int32) (y lv ag sp : Int32) (f g : Nat → Int32) (n : Nat) : Int32 := uIte (sp = 0) 0 (ukSet (ukPc S 1 y lv ag f g) n)
def ukLk (F C : Int32) (lk : Nat → Nat → Int32) (lv : Int32) (a b : Nat) : Prop := (ukB (F ||| C) a ∧ ukB (F ||| C) b) ∧ ¬ lk a b < lv
def ukSu (F C : Int32) (lk : Nat → Nat → Int32) (a b : Nat) : Prop := (ukB (F ||| C) a ∧ ukB (F ||| C) b) ∧ lk a b = 2
theorem ukDrU {s a b st f g st' f' g' : Nat → Int32} {ag ag' : Int32} {nn m P : Nat} (rs : uRg s 0 6) (h : uNp s a b m P) (hn : nn ≤ m) (hP : P ≤ 12) (d : ukDr s a b nn 24 st f g ag) (d' : ukDr s a b nn (2 * P) st' f' g' ag') : uAg (2 * P) f f' ∧ uAg (2 * P) g g' ∧ ag = ag' := by
  obtain ⟨k1, d1, rf, rg, h0, h1⟩ := d
  obtain ⟨k2, d2, rf', rg', h0', h1'⟩ := d'
  obtain ⟨aL, aG, eM⟩ := uDrwU rs h hn hP k1 k2 d1 d2 rf rg rf' rg'
  refine ⟨aL, aG, ?_⟩
  rcases h0 with e | e <;> rcases h0' with e' | e'
  · rw [e, e']
  · exact absurd (h1.mpr (eM.mpr (h1'.mp e'))) (by rw [e]; decide)
  · exact absurd (h1'.mpr (eM.mp (h1.mp e))) (by rw [e']; decide)
  · rw [e, e']
theorem ukPE {S f g f' g' : Nat → Int32} {k y lv ag : Int32} {P n : Nat} (hl : (0 : Int32) < lv) (aL : uAg (2 * P) f f') (aG : uAg (2 * P) g g') (hn : n ≤ P) (h12 : n ≤ 12) : ukSet (ukPc S k y lv ag f g) n = ukSet (ukPm S k y lv ag f' g') n := by
  refine ukSetX (by omega) (fun q hq => ?_)
  unfold ukPc ukPm
  rw [uSaE aL aG (show q < P by omega)]
  by_cases c : ag = 0
  · rw [uItP c]
    exact ⟨fun h => absurd hl h.2, fun h => absurd c h.2.1⟩
  · rw [uItN c]
    exact ⟨fun h => ⟨h.1, c, h.2⟩, fun h => ⟨h.1, h.2.2⟩⟩
def uDQ (m k y l : Int32) : Prop := ((0 ≤ m.toInt ∧ m.toInt ≤ 11) ∧ (0 ≤ k.toInt ∧ k.toInt ≤ 1)) ∧ (0 ≤ y.toInt ∧ y.toInt ≤ 500) ∧ (l.toInt = 1 ∨ l.toInt = 2)
theorem uDQ0 {m k y l : Int32} (h : uDQ m k y l) : (0 : Int32) < l := by
  rw [fa_lt]
  have h2 := h.2.2
  show (0 : Int) < l.toInt
  omega
/-- an answer out of a line as drawn -/
def ukAc (D : Prop) (s a b : Nat → Int32) (nn : Nat) (S : Nat → Int32) (n : Nat) (y lv sp : Int32) (lk : Nat → Nat → Int32) (A : Int32 → Int32 → (Nat → Int32) → Prop) (r : Int32) : Prop :=
  (¬ D ∧ r = -1) ∨ (D ∧ ∃ st f g ag near, ukDr s a b nn 24 st f g ag ∧ ukT 12 near (fun a b => a < b ∧ b < n ∧ ukLk (ukSet (ukPc S 0 y lv ag f g) n) (ukC2 S y lv ag sp f g n) lk lv a b) ∧ A (ukSet (ukPc S 0 y lv ag f g) n) (ukC2 S y lv ag sp f g n) near)
noncomputable def ukMl (h w t1 t2 : Nat → Int32) (bd : Int32) (f g cl lo hg wo be : Nat → Int32) (m k a b : Nat) : Int32 := ukMi (ukLc h w t1 t2 bd f g cl lo hg wo be a b m k) (ukLc h w t1 t2 bd f g cl lo hg wo be b a m k)
noncomputable def ukMm (h w t1 t2 : Nat → Int32) (bd : Int32) (f g lo hg : Nat → Int32) (W : Nat) (wo be : Nat → Int32) (m k a b : Nat) : Int32 := ukMi (ukLm h w t1 t2 bd f g lo hg W wo be a b m k) (ukLm h w t1 t2 bd f g lo hg W wo be b a m k)
theorem ukMlE {h w hm wm t1 t2 f g cl lo hg wo be : Nat → Int32} {bd : Int32} {W H n a b m k : Nat} (hW : W ≤ 16) (hH : H ≤ 16) (rw_ : uRg w 0 3) (rf : uRg f 0 15) (rg : uRg g 0 15) (r1 : uTg t1) (r2 : uTg t2) (hb0 : 0 ≤ bd.toInt) (hb1 : bd.toInt ≤ 999) (hh : uHW h w hm wm W H) (hp : uPo f g cl lo hg n W H) (ha : a < n) (hb : b < n) : ukMl h w t1 t2 bd f g cl lo hg wo be m k a b = ukMm hm wm t1 t2 bd f g lo hg W wo be m k a b := by
  unfold ukMl ukMm
  rw [ukLcE hW hH rw_ rf rg r1 r2 hb0 hb1 hh hp ha hb, ukLcE hW hH rw_ rf rg r1 r2 hb0 hb1 hh hp hb ha]
theorem ukMl0 {h w t1 t2 f g cl lo hg wo be : Nat → Int32} {bd : Int32} {m k a b : Nat} (e : ukLc h w t1 t2 bd f g cl lo hg wo be a b m k = 0) : 0 = ukMl h w t1 t2 bd f g cl lo hg wo be m k a b := by
  unfold ukMl
  refine ukMi0 e ?_
  unfold ukLc
  exact uLv3
theorem ukVcE {N n i j : Nat} {near : Nat → Int32} {L : Nat → Nat → Prop} (h : ukT N near (ukVc n i j L)) (hi : n ≤ i) : ukT N near (fun a b => a < b ∧ b < n ∧ L a b) := by
  refine ukTW h (fun a b => ?_)
  unfold ukVc
  constructor
  · rintro ⟨k1, k2, _, k4⟩; exact ⟨k1, k2, k4⟩
  · rintro ⟨k1, k2, k4⟩; exact ⟨k1, k2, by omega, k4⟩
theorem ukVmE {N n i j : Nat} {near : Nat → Int32} {L : Nat → Nat → Prop} (h : ukT N near (ukVm n i j L)) (hi : n ≤ i) : ukT N near (fun a b => b < a ∧ a < n ∧ L a b) := by
  refine ukTW h (fun a b => ?_)
  unfold ukVm
  constructor
  · rintro ⟨k1, k2, _, k4⟩; exact ⟨k1, k2, k4⟩
  · rintro ⟨k1, k2, k4⟩; exact ⟨k1, k2, by omega, k4⟩
theorem ukSn {x : Int32} {k : Nat} (hk : k < 32) (c : ¬ x >>> (nI k &&& 31) &&& 1 = 0) : ukB x k := Classical.byContradiction (fun h => c ((ukSz hk).mpr h))
theorem ukG1 {R : Nat → Int32} {M x v : Int32} {j : Nat} (e : x = (ukG R M j).1) (h : ukB x j) (w : v = R j) : x &&& (v ^^^ (-1)) = (ukG R M (j + 1)).1 := by
  rw [ukGY (by rw [← e]; exact h), e, w]
theorem ukG2 {R : Nat → Int32} {M x : Int32} {j n : Nat} (e : x = (ukG R M j).1) (h : ukB x j) (w : n = (ukG R M j).2) : n + 1 = (ukG R M (j + 1)).2 := by
  rw [ukGY (by rw [← e]; exact h), w]
theorem ukG3 {R : Nat → Int32} {M x : Int32} {j : Nat} (e : x = (ukG R M j).1) (h : ¬ ukB x j) : x = (ukG R M (j + 1)).1 := by
  rw [ukGN (by rw [← e]; exact h)]; exact e
theorem ukG4 {R : Nat → Int32} {M x : Int32} {j n : Nat} (e : x = (ukG R M j).1) (h : ¬ ukB x j) (w : n = (ukG R M j).2) : n = (ukG R M (j + 1)).2 := by
  rw [ukGN (by rw [← e]; exact h)]; exact w
theorem ukDrI {s a b st f g : Nat → Int32} {r ag : Int32} {nn : Nat} (w : uAg nn st (uStk s a nn nn) ∧ uDrw s a b st nn 24 f g ∧ (r = 1 ↔ uMt 24 f g) ∧ uR24 f ∧ uR24 g ∧ r = ag) (h : ag = 0 ∨ ag = 1) : ukDr s a b nn 24 st f g ag := by
  obtain ⟨w1, w2, w3, w4, w5, w6⟩ := w
  rw [w6] at w3
  exact ⟨w1, w2, w4, w5, h, w3⟩
theorem ukDrJ {s a b st f g : Nat → Int32} {r : Int32} {nn N : Nat} (w : uAg nn st (uStk s a nn nn) ∧ uDrw s a b st nn N f g ∧ (r = 1 ↔ uMt N f g)) (rf : uRg f 0 500) (rg : uRg g 0 500) (h : r = 0 ∨ r = 1) : ukDr s a b nn N st f g r := ⟨w.1, w.2.1, uR24g rf, uR24g rg, h, w.2.2⟩
theorem ukAcI {s a b st f g near : Nat → Int32} {nn n : Nat} {S : Nat → Int32} {y lv sp ag F C : Int32} {lk : Nat → Nat → Int32} {A : Int32 → Int32 → (Nat → Int32) → Prop} (d : ukDr s a b nn 24 st f g ag) (eF : F = ukSet (ukPc S 0 y lv ag f g) n) (eC : C = ukC2 S y lv ag sp f g n) (t : ukT 12 near (fun a b => a < b ∧ b < n ∧ ukLk F C lk lv a b)) (w : A F C near) : ∃ st f g ag near, ukDr s a b nn 24 st f g ag ∧ ukT 12 near (fun a b => a < b ∧ b < n ∧ ukLk (ukSet (ukPc S 0 y lv ag f g) n) (ukC2 S y lv ag sp f g n) lk lv a b) ∧ A (ukSet (ukPc S 0 y lv ag f g) n) (ukC2 S y lv ag sp f g n) near := by
  subst eF eC
  exact ⟨st, f, g, ag, near, d, t, w⟩
theorem ukAmI {s a b st f g near : Nat → Int32} {nn n : Nat} {S : Nat → Int32} {y lv ag F C : Int32} {lk : Nat → Nat → Int32} {A : Int32 → Int32 → (Nat → Int32) → Prop} (d : ukDr s a b nn (2 * n) st f g ag) (eF : F = ukSet (ukPm S 0 y lv ag f g) n) (eC : C = ukSet (ukPm S 1 y lv ag f g) n) (t : ukT n near (fun a b => b < a ∧ a < n ∧ ukLk F C lk lv a b)) (w : A F C near) : ∃ st f g ag near, ukDr s a b nn (2 * n) st f g ag ∧ ukT n near (fun a b => b < a ∧ a < n ∧ ukLk (ukSet (ukPm S 0 y lv ag f g) n) (ukSet (ukPm S 1 y lv ag f g) n) lk lv a b) ∧ A (ukSet (ukPm S 0 y lv ag f g) n) (ukSet (ukPm S 1 y lv ag f g) n) near := by
  subst eF eC
  exact ⟨st, f, g, ag, near, d, t, w⟩
def uDA (m k y : Int32) : Prop := ((0 ≤ m.toInt ∧ m.toInt ≤ 11) ∧ (0 ≤ k.toInt ∧ k.toInt ≤ 1)) ∧ (0 ≤ y.toInt ∧ y.toInt ≤ 500)
def uDV (l : Int32) : Prop := l.toInt = 1 ∨ l.toInt = 2
theorem uDQI {m k y l : Int32} (h : uDA m k y) (v : uDV l) : uDQ m k y l := ⟨h.1, h.2, v⟩
theorem uDQA {m k y l : Int32} (h : ¬ uDA m k y) : ¬ uDQ m k y l := fun q => h ⟨q.1, q.2.1⟩
theorem uDQV {m k y l : Int32} (h : ¬ uDV l) : ¬ uDQ m k y l := fun q => h q.2.2
theorem ukPmN0 {S f g : Nat → Int32} {k y lv ag : Int32} {p : Nat} (h : ag = 0) : ¬ ukPm S k y lv ag f g p := fun q => q.2.1 h
theorem ukPmN1 {S f g : Nat → Int32} {k y lv ag : Int32} {p : Nat} (h : uSa y f g p < lv) : ¬ ukPm S k y lv ag f g p := fun q => q.2.2 h
theorem ukPmN2 {S f g : Nat → Int32} {k y lv ag : Int32} {p : Nat} (h : ¬ S p = k) : ¬ ukPm S k y lv ag f g p := fun q => h q.1
theorem ukPmN3 {S f g : Nat → Int32} {y lv ag : Int32} {p : Nat} (h : S p = 0) : ¬ ukPm S 1 y lv ag f g p := fun q => absurd (q.1.symm.trans h) (by decide)
theorem ukPmY {S f g : Nat → Int32} {k y lv ag : Int32} {p : Nat} (h : S p = k) (h1 : ¬ ag = 0) (h2 : ¬ uSa y f g p < lv) : ukPm S k y lv ag f g p := ⟨h, h1, h2⟩
theorem ukPcN1 {S f g : Nat → Int32} {k y lv ag : Int32} {p : Nat} (h : ¬ S p = k) : ¬ ukPc S k y lv ag f g p := fun q => h q.1
theorem ukPcN2 {S f g : Nat → Int32} {k y lv ag : Int32} {p : Nat} (h : uIte (ag = 0) 0 (uSa y f g p) < lv) : ¬ ukPc S k y lv ag f g p := fun q => q.2 h
theorem ukPcY {S f g : Nat → Int32} {k y lv ag : Int32} {p : Nat} (h : S p = k) (h2 : ¬ uIte (ag = 0) 0 (uSa y f g p) < lv) : ukPc S k y lv ag f g p := ⟨h, h2⟩
theorem ukLk1 {F C lv : Int32} {lk : Nat → Nat → Int32} {a b : Nat} (h : ukB (F ||| C) a ∧ ukB (F ||| C) b) : ukLk F C lk lv a b ↔ ¬ lk a b < lv := ⟨fun k => k.2, fun k => ⟨h, k⟩⟩
theorem ukSu1 {F C : Int32} {lk : Nat → Nat → Int32} {a b : Nat} (h : ukB (F ||| C) a ∧ ukB (F ||| C) b) : ukSu F C lk a b ↔ lk a b = 2 := ⟨fun k => k.2, fun k => ⟨h, k⟩⟩
theorem ukLk0 {F C lv : Int32} {lk : Nat → Nat → Int32} {a b : Nat} (h : ¬ (ukB (F ||| C) a ∧ ukB (F ||| C) b)) : ukLk F C lk lv a b ↔ False := ⟨fun k => h k.1, False.elim⟩
theorem ukSu0 {F C : Int32} {lk : Nat → Nat → Int32} {a b : Nat} (h : ¬ (ukB (F ||| C) a ∧ ukB (F ||| C) b)) : ukSu F C lk a b ↔ False := ⟨fun k => h k.1, False.elim⟩
theorem ukLk2 {F C lv : Int32} {lk : Nat → Nat → Int32} {a b : Nat} (h : lk a b < lv) : ukLk F C lk lv a b ↔ False := ⟨fun k => k.2 h, False.elim⟩
/-! joining -/
theorem ukZ {x : Int32} : x = 0 ↔ ∀ q, ¬ ukB x q := by
  constructor
  · intro h q; rw [h]; exact uk0
  · intro h; exact ukX (fun q _ => ⟨fun k => absurd k (h q), fun k => absurd k uk0⟩)
def ukLow (F : Int32) (p : Nat) : Prop := ukB F p ∧ ∀ r, r < p → ¬ ukB F r
theorem ukLowU {F : Int32} {p q : Nat} (h : ukLow F p) (k : ukLow F q) : p = q := by
  by_cases c : p < q
  · exact absurd h.1 (k.2 p c)
  · by_cases d : q < p
    · exact absurd k.1 (h.2 q d)
    · omega
def ukJ (n : Nat) (near : Nat → Int32) (F x : Int32) : Prop := ∀ q, ukB F q → ukCl (ukLow F) (ukR n near (F ||| x)) q
def ukLwc (n : Nat) : Bool := decide ((nI n) &&& (-(nI n)) = nI (2 ^ ukTz n)) && (List.range 12).all (fun q => !(decide (q < ukTz n)) || !(n.testBit q))
set_option maxRecDepth 100000 in
theorem ukLw0 : ∀ a : Nat, a < 64 → ∀ b : Nat, b < 64 → (64 * a + b = 0 ∨ ukLwc (64 * a + b) = true) := by decide +kernel
theorem ukLw {F : Int32} (h : ukL F) (p : Nat) : ukB (F &&& (-F)) p ↔ ukLow F p := by
  obtain ⟨n, hn, e⟩ := ukLn h
  subst e
  by_cases c : n = 0
  · subst c
    exact ⟨fun k => absurd (ukA.mp k).1 uk0, fun k => absurd k.1 uk0⟩
  · have q := ukLw0 (n / 64) (by omega) (n % 64) (by omega)
    rw [show 64 * (n / 64) + n % 64 = n by omega] at q
    rcases q with q | q
    · omega
    · obtain ⟨z1, z2, _⟩ := ukTzF hn (by omega)
      unfold ukLwc at q
      rw [Bool.and_eq_true, decide_eq_true_eq, List.all_eq_true] at q
      obtain ⟨q1, q2⟩ := q
      have low : ∀ r, r < ukTz n → ¬ ukB (nI n) r := by
        intro r hr k
        have q3 := q2 r (List.mem_range.mpr (by omega))
        rw [ukNb (by omega)] at k
        rw [k, decide_eq_true hr] at q3
        exact absurd q3 (by decide)
      have p2 : (2 : Nat) ^ ukTz n < 2 ^ 32 := Nat.pow_lt_pow_right (by decide) (by omega)
      rw [q1, ukNb p2, Nat.testBit_two_pow, decide_eq_true_eq]
      constructor
      · intro k; rw [← k]; exact ⟨z2, low⟩
      · intro k; exact ukLowU ⟨z2, low⟩ k
theorem ukSub {F r : Int32} : F &&& (r ^^^ (-1)) = 0 ↔ ∀ q, ukB F q → ukB r q := by
  rw [ukZ]
  constructor
  · intro h q k
    exact Classical.byContradiction (fun c => h q (ukA.mpr ⟨k, (ukC (ukLt k)).mpr c⟩))
  · intro h q k
    have k := ukA.mp k
    exact (ukC (ukLt k.1)).mp k.2 (h q k.1)
theorem ukJc {near : Nat → Int32} {F x : Int32} (hF : ukL F) : F &&& ((ukSet (ukCl (ukB (F &&& (-F))) (ukR 12 near (F ||| x))) 12) ^^^ (-1)) = 0 ↔ ukJ 12 near F x := by
  rw [ukSub, ukClS (ukLw hF)]
  constructor
  · intro h q k; exact ((ukSetB 12 (by omega)).mp (h q k)).2
  · intro h q k; exact (ukSetB 12 (by omega)).mpr ⟨hF q k, h q k⟩
theorem ukJm {n j : Nat} {near : Nat → Int32} {F x : Int32} (hF : ukL F) (hj : ukLow F j) : F &&& ((ukW n near (F ||| x) j) ^^^ (-1)) = 0 ↔ ukJ n near F x := by
  unfold ukW
  rw [ukSub, ukClS (S' := ukLow F) (fun p => ⟨fun k => by rw [k]; exact hj, fun k => ukLowU k hj⟩)]
  constructor
  · intro h q k; exact ((ukSetB 12 (by omega)).mp (h q k)).2
  · intro h q k; exact (ukSetB 12 (by omega)).mpr ⟨hF q k, h q k⟩
theorem ukLowI {F : Int32} {j : Nat} (h : uBz0 F j) (c : ukB F j) : ukLow F j := ⟨c, fun r hr k => by
  have q := h r hr
  unfold ukB at k
  rw [q] at k
  exact absurd k (by decide)⟩
theorem ukJ0 {n : Nat} {near : Nat → Int32} {x : Int32} : ukJ n near 0 x := fun q k => absurd k uk0
theorem ukClM {S : Nat → Prop} {R R' : Nat → Nat → Prop} (h : ∀ p q, R p q → R' p q) {q : Nat} (k : ukCl S R q) : ukCl S R' q := fun X h1 h2 => k X h1 (fun p r hx hr => h2 p r hx (h p r hr))
theorem ukJM {n : Nat} {near : Nat → Int32} {F x y : Int32} (h : ∀ q, ukB x q → ukB y q) (k : ukJ n near F x) : ukJ n near F y := fun q hq => ukClM (fun p r hr => ⟨hr.1, hr.2.1, ukO.mpr ((ukO.mp hr.2.2).imp id (h r))⟩) (k q hq)
theorem ukJE {n : Nat} {near near' : Nat → Int32} {F C x : Int32} (hn : n ≤ 12) (hF : ∀ q, ukB (F ||| C) q → q < n) (h : ukE n near near' (F ||| C)) (hx : ∀ q, ukB x q → ukB C q) : ukJ 12 near F x ↔ ukJ n near' F x := by
  have m : ∀ q, ukB (F ||| x) q → ukB (F ||| C) q := fun q k => ukO.mpr ((ukO.mp k).imp id (hx q))
  have e : ∀ q, ukCl (ukLow F) (ukR 12 near (F ||| x)) q ↔ ukCl (ukLow F) (ukR n near' (F ||| x)) q := by
    intro q
    refine ukClE (M := ukB (F ||| x)) (fun p hp => ukO.mpr (Or.inl hp.1)) (fun s t hs => ?_) (fun s t _ ht => ht.2.2) q
    constructor
    · rintro ⟨_, k2, k3⟩
      exact ⟨hF s (m s hs), (h s t (m s hs) (m t k3)).mp k2, k3⟩
    · rintro ⟨k1, k2, k3⟩
      exact ⟨by omega, (h s t (m s hs) (m t k3)).mpr k2, k3⟩
  exact ⟨fun k q hq => (e q).mp (k q hq), fun k q hq => (e q).mpr (k q hq)⟩
theorem ukNE2 {near near' : Nat → Int32} {F C : Int32} {lk lk' : Nat → Nat → Int32} {lv : Int32} {n : Nat} (hn : n ≤ 12) (hF : ∀ q, ukB (F ||| C) q → q < n) (s1 : ∀ a b, lk a b = lk b a) (e : ∀ a b, a < n → b < n → lk a b = lk' a b) (h : ukT 12 near (fun a b => a < b ∧ b < n ∧ ukLk F C lk lv a b)) (h' : ukT n near' (fun a b => b < a ∧ a < n ∧ ukLk F C lk' lv a b)) : ukE n near near' (F ||| C) := by
  intro p q hp hq
  have p1 := hF p hp
  have q1 := hF q hq
  rw [h p q (by omega), h' p q p1]
  constructor
  · rintro (⟨k1, k2, k3, k4⟩ | ⟨k1, k2, k3, k4⟩)
    · right
      refine ⟨k1, q1, ⟨hq, hp⟩, ?_⟩
      rw [← e q p q1 p1, s1]; exact k4
    · left
      refine ⟨k1, p1, ⟨hp, hq⟩, ?_⟩
      rw [← e p q p1 q1, s1]; exact k4
  · rintro (⟨k1, k2, k3, k4⟩ | ⟨k1, k2, k3, k4⟩)
    · right
      refine ⟨k1, p1, ⟨hq, hp⟩, ?_⟩
      rw [s1, e p q p1 q1]; exact k4
    · left
      refine ⟨k1, q1, ⟨hp, hq⟩, ?_⟩
      rw [s1, e q p q1 p1]; exact k4
/-! how many bits -/
def ukPn (n : Nat) : Nat → Nat
  | 0 => 0
  | k + 1 => ukPn n k + (if n.testBit k then 1 else 0)
theorem ukPnK {n : Nat} (h : n < 2 ^ 32) : ∀ k, ukPn n k = ukK (ukB (nI n)) k
  | 0 => rfl
  | k + 1 => by
    have ih := ukPnK h k
    show ukPn n k + (if n.testBit k then 1 else 0) = _
    by_cases c : ukB (nI n) k
    · rw [ukKY c, ih, if_pos ((ukNb h).mp c)]
    · rw [ukKN c, ih, if_neg (fun q => c ((ukNb h).mpr q)), Nat.add_zero]
theorem ukBi {x : Int32} {k : Nat} (hk : k < 32) : x >>> (nI k &&& 31) &&& 1 = nI (uIte (ukB x k) 1 0) := by
  by_cases c : ukB x k
  · rw [uItP c]; exact (ukS hk).mpr c
  · rw [uItN c]; exact (ukSz hk).mpr c
theorem ukBl1 {P : Prop} : uIte P 1 0 ≤ 1 := by
  by_cases c : P
  · rw [uItP c]; exact Nat.le_refl _
  · rw [uItN c]; exact Nat.zero_le _
theorem ukKa {P : Nat → Prop} {k n : Nat} (e : n = ukK P k) : n + uIte (P k) 1 0 = ukK P (k + 1) := by
  by_cases c : P k
  · rw [uItP c, ukKY c, e]
  · rw [uItN c, ukKN c, e]; rfl
/-! the next set among C -/
theorem ukA2 {a b x y : Nat} (hx : x < 2) (hy : y < 2) : (2 * a + x) &&& (2 * b + y) = 2 * (a &&& b) + (if x = 1 ∧ y = 1 then 1 else 0) := by
  have hx' : x = 0 ∨ x = 1 := by omega
  have hy' : y = 0 ∨ y = 1 := by omega
  refine Nat.eq_of_testBit_eq (fun i => ?_)
  cases i with
  | zero =>
    have e1 : (2 * a + x) % 2 = x := by omega
    have e2 : (2 * b + y) % 2 = y := by omega
    have r : (2 * (a &&& b) + (if x = 1 ∧ y = 1 then 1 else 0)) % 2 = (if x = 1 ∧ y = 1 then 1 else 0) := by split <;> omega
    rw [Nat.testBit_and, Nat.testBit_zero, Nat.testBit_zero, Nat.testBit_zero, e1, e2, r]
    rcases hx' with rfl | rfl <;> rcases hy' with rfl | rfl <;> decide
  | succ i =>
    have r : (2 * (a &&& b) + (if x = 1 ∧ y = 1 then 1 else 0)) / 2 = a &&& b := by split <;> omega
    rw [Nat.testBit_and, Nat.testBit_succ, Nat.testBit_succ, Nat.testBit_succ, show (2 * a + x) / 2 = a by omega, show (2 * b + y) / 2 = b by omega, r, Nat.testBit_and]
theorem ukS22 {a b x y : Nat} (hx : x < 2) (hy : y < 2) : ((2 * a + x) &&& (2 * b + y) = 2 * a + x) ↔ (a &&& b = a ∧ x ≤ y) := by
  rw [ukA2 hx hy]
  constructor
  · intro h
    by_cases c : x = 1 ∧ y = 1
    · rw [if_pos c] at h; omega
    · rw [if_neg c] at h; omega
  · rintro ⟨h, k⟩
    rw [h]
    by_cases c : x = 1 ∧ y = 1
    · rw [if_pos c]; omega
    · rw [if_neg c]; omega
theorem ukSle {s C : Nat} (h : s &&& C = s) : s ≤ C := by rw [← h]; exact Nat.and_le_right
theorem ukZa : ∀ n c s : Nat, c < 2 ^ n → s &&& c = s → (s + 2 ^ n - 1 - c) &&& c = s
  | 0, c, s, hc, hs => by
    have h1 := ukSle hs
    have e : c = 0 := by simpa using hc
    subst e
    have e : s = 0 := by omega
    subst e
    rfl
  | n + 1, c, s, hc, hs => by
    obtain ⟨c', g, hg, rfl⟩ : ∃ c' g, g < 2 ∧ c = 2 * c' + g := ⟨c / 2, c % 2, by omega, by omega⟩
    obtain ⟨s', a, ha, rfl⟩ : ∃ s' a, a < 2 ∧ s = 2 * s' + a := ⟨s / 2, s % 2, by omega, by omega⟩
    obtain ⟨h1, h2⟩ := (ukS22 ha hg).mp hs
    rw [Nat.pow_succ] at hc ⊢
    have ih := ukZa n c' s' (by omega) h1
    have l1 := ukSle h1
    generalize 2 ^ n = N at hc ih ⊢
    rw [show 2 * s' + a + N * 2 - 1 - (2 * c' + g) = 2 * (s' + N - 1 - c') + (1 + a - g) by omega, ukA2 (by omega) hg, ih]
    by_cases d : 1 + a - g = 1 ∧ g = 1
    · rw [if_pos d]; omega
    · rw [if_neg d]; omega
def ukNx (C s : Nat) : Nat := ((s + 2 ^ 32 - C) % 2 ^ 32) &&& C
theorem ukNxG : ∀ n C s : Nat, C < 2 ^ n → s &&& C = s → s ≠ C → ((((s + 2 ^ n - C) % 2 ^ n) &&& C) &&& C = ((s + 2 ^ n - C) % 2 ^ n) &&& C) ∧ s < ((s + 2 ^ n - C) % 2 ^ n) &&& C ∧ ∀ t, t &&& C = t → s < t → ((s + 2 ^ n - C) % 2 ^ n) &&& C ≤ t
  | 0, C, s, hC, hs, hne => by
    have h1 := ukSle hs
    have e : C = 0 := by simpa using hC
    omega
  | n + 1, C, s, hC, hs, hne => by
    obtain ⟨c, g, hg, rfl⟩ : ∃ c g, g < 2 ∧ C = 2 * c + g := ⟨C / 2, C % 2, by omega, by omega⟩
    obtain ⟨σ, a, ha, rfl⟩ : ∃ σ a, a < 2 ∧ s = 2 * σ + a := ⟨s / 2, s % 2, by omega, by omega⟩
    obtain ⟨h1, h2⟩ := (ukS22 ha hg).mp hs
    have l1 := ukSle h1
    rw [Nat.pow_succ] at hC ⊢
    by_cases e : a = g
    · subst e
      have ih := ukNxG n c σ (by omega) h1 (by omega)
      generalize 2 ^ n = N at hC ih ⊢
      have e1 : (2 * σ + a + N * 2 - (2 * c + a)) % (N * 2) = 2 * ((σ + N - c) % N) + 0 := by
        rw [show 2 * σ + a + N * 2 - (2 * c + a) = 2 * (σ + N - c) by omega, Nat.mul_comm N 2, Nat.mul_mod_mul_left]; rfl
      rw [e1, ukA2 (by omega) ha, if_neg (by omega)]
      obtain ⟨i1, i2, i3⟩ := ih
      refine ⟨?_, by omega, ?_⟩
      · rw [ukA2 (by omega) ha, if_neg (by omega), i1]
      · intro t ht hst
        obtain ⟨τ, b, hb, rfl⟩ : ∃ τ b, b < 2 ∧ t = 2 * τ + b := ⟨t / 2, t % 2, by omega, by omega⟩
        obtain ⟨t1, t2⟩ := (ukS22 hb ha).mp ht
        have t3 := i3 τ t1 (by omega)
        omega
    · have e0 : a = 0 := by omega
      have g1 : g = 1 := by omega
      subst e0 g1
      have z := ukZa n c σ (by omega) h1
      generalize 2 ^ n = N at hC z ⊢
      have e1 : (2 * σ + 0 + N * 2 - (2 * c + 1)) % (N * 2) = 2 * (σ + N - 1 - c) + 1 := by
        rw [show 2 * σ + 0 + N * 2 - (2 * c + 1) = 2 * (σ + N - 1 - c) + 1 by omega]
        exact Nat.mod_eq_of_lt (by omega)
      rw [e1, ukA2 (by omega) (by omega), if_pos ⟨rfl, rfl⟩, z]
      refine ⟨?_, by omega, fun t ht hst => by omega⟩
      rw [ukA2 (by omega) (by omega), if_pos ⟨rfl, rfl⟩, h1]
theorem ukNxS {C s : Nat} (hC : C < 4096) (hs : s &&& C = s) (h : s ≠ C) : ukNx C s &&& C = ukNx C s ∧ s < ukNx C s ∧ ∀ t, t &&& C = t → s < t → ukNx C s ≤ t := ukNxG 32 C s (by omega) hs h
theorem ukNxC {C : Nat} : ukNx C C = 0 := by
  unfold ukNx
  rw [show C + 2 ^ 32 - C = 2 ^ 32 by omega, Nat.mod_self]
  exact Nat.zero_and C
theorem ukNxL {C s : Nat} (hC : C < 4096) : ukNx C s < 4096 := Nat.lt_of_le_of_lt Nat.and_le_right hC
theorem ukNi {C s : Nat} (hC : C < 4096) (hs : s < 4096) : (nI s - nI C) &&& nI C = nI (ukNx C s) := by
  have h2 := ukNxL (s := s) hC
  refine Int32.toBitVec_inj.mp (BitVec.eq_of_toNat_eq ?_)
  rw [Int32.toBitVec_and, BitVec.toNat_and, Int32.toBitVec_sub, BitVec.toNat_sub, pk_tn (by omega), pk_tn (by omega), pk_tn (by omega)]
  unfold ukNx
  rw [show 2 ^ 32 - C + s = s + 2 ^ 32 - C by omega]
/-! the sets that join, counted as they come -/
def ukSJ (J : Nat → Prop) (C t : Nat) : Prop := t &&& C = t ∧ J t
def ukPF (J : Nat → Prop) (C F t : Nat) : Prop := (t &&& C = t ∧ J t) ∧ ukPn t 12 = F
theorem ukKg {P : Nat → Prop} {a : Nat} : ∀ k, (∀ t, a ≤ t → t < a + k → ¬ P t) → ukK P (a + k) = ukK P a
  | 0, _ => rfl
  | k + 1, h => by
    rw [show a + (k + 1) = (a + k) + 1 from rfl, ukKN (h (a + k) (by omega) (by omega))]
    exact ukKg k (fun t h1 h2 => h t h1 (by omega))
theorem ukKh {P : Nat → Prop} {a b : Nat} (hab : a ≤ b) (h : ∀ t, a ≤ t → t < b → ¬ P t) : ukK P b = ukK P a := by
  have q := ukKg (P := P) (a := a) (b - a) (fun t h1 h2 => h t h1 (by omega))
  rw [show a + (b - a) = b by omega] at q
  exact q
theorem ukKo {P : Nat → Prop} {a : Nat} : ∀ k, ukK P a ≤ ukK P (a + k)
  | 0 => Nat.le_refl _
  | k + 1 => by
    have ih := ukKo (P := P) (a := a) k
    rw [show a + (k + 1) = (a + k) + 1 from rfl]
    by_cases c : P (a + k)
    · rw [ukKY c]; omega
    · rw [ukKN c]; exact ih
theorem ukKp {P : Nat → Prop} {a b : Nat} (h : a ≤ b) : ukK P a ≤ ukK P b := by
  have q := ukKo (P := P) (a := a) (b - a)
  rw [show a + (b - a) = b by omega] at q
  exact q
theorem ukKt {P : Nat → Prop} {t s : Nat} (h : P t) (k : t < s) : ukK P t < ukK P s := by
  have q := ukKp (P := P) (show t + 1 ≤ s from k)
  rw [ukKY h] at q
  omega
theorem ukKi {P : Nat → Prop} {i : Nat} : ∀ n, i < ukK P n → ∃ t, t < n ∧ P t ∧ ukK P t = i
  | 0, h => absurd h (Nat.not_lt_zero _)
  | n + 1, h => by
    by_cases c : P n
    · rw [ukKY c] at h
      by_cases e : i = ukK P n
      · exact ⟨n, Nat.lt_succ_self n, c, e.symm⟩
      · obtain ⟨t, h1, h2, h3⟩ := ukKi n (show i < ukK P n by omega)
        exact ⟨t, Nat.lt_succ_of_lt h1, h2, h3⟩
    · rw [ukKN c] at h
      obtain ⟨t, h1, h2, h3⟩ := ukKi n h
      exact ⟨t, Nat.lt_succ_of_lt h1, h2, h3⟩
theorem ukKx {P Q : Nat → Prop} (h : ∀ t, P t ↔ Q t) : ukK P = ukK Q := by
  rw [show P = Q from funext fun t => propext (h t)]
theorem ukPnL {n : Nat} : ∀ k, ukPn n k ≤ k
  | 0 => Nat.le_refl _
  | k + 1 => by
    have ih := ukPnL (n := n) k
    show ukPn n k + (if n.testBit k then 1 else 0) ≤ k + 1
    split <;> omega
def ukGa (J : Nat → Prop) (C b : Nat) (fw : Int32) (sz : Nat) (sets : Nat → Int32) : Prop :=
  ∃ F : Nat, fw = nI F ∧ F ≤ 12 ∧ (∀ t, t < b → ukSJ J C t → F ≤ ukPn t 12) ∧ (F < 12 → ∃ t, t < b ∧ ukPF J C F t) ∧ sz = ukK (ukPF J C F) b ∧ ∀ t, t < b → ukPF J C F t → sets (ukK (ukPF J C F) t) = nI t
theorem ukGa0 {J : Nat → Prop} {C : Nat} {sets : Nat → Int32} : ukGa J C 0 12 0 sets :=
  ⟨12, rfl, Nat.le_refl _, fun t h => absurd h (Nat.not_lt_zero _), fun h => absurd h (by decide), rfl, fun t h => absurd h (Nat.not_lt_zero _)⟩
theorem ukGaK {J : Nat → Prop} {C s : Nat} {fw : Int32} {sz : Nat} {sets : Nat → Int32} (h : ukGa J C s fw sz sets) (c : ∀ F, fw = nI F → F ≤ 12 → ukSJ J C s → F < ukPn s 12) : ukGa J C (s + 1) fw sz sets := by
  obtain ⟨F, e, h0, h1, h2, h3, h4⟩ := h
  have np : ¬ ukPF J C F s := fun k => by
    have q := c F e h0 k.1
    have k2 := k.2
    omega
  refine ⟨F, e, h0, fun t ht k => ?_, fun hF => ?_, ?_, fun t ht k => ?_⟩
  · by_cases d : t = s
    · subst d; exact Nat.le_of_lt (c F e h0 k)
    · exact h1 t (by omega) k
  · obtain ⟨t, t1, t2⟩ := h2 hF
    exact ⟨t, by omega, t2⟩
  · rw [ukKN np]; exact h3
  · by_cases d : t = s
    · subst d; exact absurd k np
    · exact h4 t (by omega) k
theorem ukGaA {J : Nat → Prop} {C s : Nat} {fw : Int32} {sz : Nat} {sets : Nat → Int32} (h : ukGa J C s fw sz sets) (c : fw < nI (ukPn s 12)) : ukGa J C (s + 1) fw sz sets := by
  refine ukGaK h (fun F e h0 _ => ?_)
  have p := ukPnL (n := s) 12
  rw [e] at c
  exact (nI_ltI (by omega) (by omega)).mp c
theorem ukGaB {J : Nat → Prop} {C s : Nat} {fw : Int32} {sz : Nat} {sets : Nat → Int32} (h : ukGa J C s fw sz sets) (c : ¬ J s) : ukGa J C (s + 1) fw sz sets := ukGaK h (fun F e h0 k => absurd k.2 c)
def ukTk (fw : Int32) (sz : Nat) (sets : Nat → Int32) (x y fw' : Int32) (sz' : Nat) (sets' : Nat → Int32) : Prop :=
  (y < fw ∧ fw' = y ∧ sz' = 1 ∧ sets' = upd sets 0 x) ∨ (¬ y < fw ∧ fw' = fw ∧ ((sz < 252 ∧ sz' = sz + 1 ∧ sets' = upd sets sz x) ∨ 252 ≤ sz))
theorem ukGaC {J : Nat → Prop} {C s : Nat} {fw fw' : Int32} {sz sz' : Nat} {sets sets' : Nat → Int32} (h : ukGa J C s fw sz sets) (hs : s &&& C = s) (hJ : J s) (c : ¬ fw < nI (ukPn s 12)) (t : ukTk fw sz sets (nI s) (nI (ukPn s 12)) fw' sz' sets') (hb : ∀ F, fw = nI F → F ≤ 12 → ukK (ukPF J C F) (s + 1) ≤ 252) : ukGa J C (s + 1) fw' sz' sets' := by
  obtain ⟨F, e, h0, h1, h2, h3, h4⟩ := h
  have p := ukPnL (n := s) 12
  have hs2 : ukPF J C (ukPn s 12) s := ⟨⟨hs, hJ⟩, rfl⟩
  have c' : ukPn s 12 ≤ F := by
    rw [e] at c
    exact Nat.le_of_not_lt (fun q => c ((nI_ltI (by omega) (by omega)).mpr q))
  rcases t with ⟨t1, t2, t3, t4⟩ | ⟨t1, t2, t3⟩
  · have lt : ukPn s 12 < F := by
      rw [e] at t1
      exact (nI_ltI (by omega) (by omega)).mp t1
    have no : ∀ t, 0 ≤ t → t < s → ¬ ukPF J C (ukPn s 12) t := fun t _ ht k => by
      have q := h1 t ht k.1
      have k2 := k.2
      omega
    have z : ukK (ukPF J C (ukPn s 12)) s = 0 := ukKh (Nat.zero_le _) no
    refine ⟨ukPn s 12, t2, by omega, fun t ht k => ?_, fun _ => ⟨s, by omega, hs2⟩, ?_, fun t ht k => ?_⟩
    · by_cases d : t = s
      · subst d; exact Nat.le_refl _
      · have q := h1 t (by omega) k
        omega
    · rw [ukKY hs2, z, t3]
    · by_cases d : t = s
      · subst d; rw [z, t4, pk_us]
      · exact absurd k (no t (Nat.zero_le _) (by omega))
  · have eF : ukPn s 12 = F := by
      rw [e] at t1
      have q : ¬ ukPn s 12 < F := fun q => t1 ((nI_ltI (by omega) (by omega)).mpr q)
      omega
    rw [eF] at hs2
    have b := hb F e h0
    rw [ukKY hs2, ← h3] at b
    rcases t3 with ⟨t3, t4, t5⟩ | t3
    · refine ⟨F, t2.trans e, h0, fun t ht k => ?_, fun hF => ⟨s, by omega, hs2⟩, ?_, fun t ht k => ?_⟩
      · by_cases d : t = s
        · subst d; omega
        · exact h1 t (by omega) k
      · rw [ukKY hs2, t4, h3]
      · by_cases d : t = s
        · subst d; rw [t5, h3, pk_us]
        · have q := ukKt k (show t < s by omega)
          rw [t5, pk_un (by omega)]
          exact h4 t (by omega) k
    · omega
theorem ukGaX {J : Nat → Prop} {C s s' : Nat} {fw : Int32} {sz : Nat} {sets : Nat → Int32} (h : ukGa J C (s + 1) fw sz sets) (hs : s < s') (g : ∀ t, t &&& C = t → s < t → s' ≤ t) : ukGa J C s' fw sz sets := by
  obtain ⟨F, e, h0, h1, h2, h3, h4⟩ := h
  have lt : ∀ t, t &&& C = t → t < s' → t < s + 1 := fun t k ht => by
    by_cases d : s < t
    · have q := g t k d
      omega
    · omega
  refine ⟨F, e, h0, fun t ht k => h1 t (lt t k.1 ht) k, fun hF => ?_, ?_, fun t ht k => h4 t (lt t k.1.1 ht) k⟩
  · obtain ⟨t, t1, t2⟩ := h2 hF
    exact ⟨t, by omega, t2⟩
  · rw [h3]
    exact (ukKh (show s + 1 ≤ s' from hs) (fun t a b k => absurd (lt t k.1.1 b) (by omega))).symm
def ukGf (J : Nat → Prop) (C : Nat) (fw : Int32) (sz : Nat) (sets : Nat → Int32) : Prop :=
  ∃ F : Nat, fw = nI F ∧ F ≤ 12 ∧ (∀ t, ukSJ J C t → F ≤ ukPn t 12) ∧ (∃ t, ukPF J C F t) ∧ sz = ukK (ukPF J C F) 4096 ∧ ∀ t, ukPF J C F t → sets (ukK (ukPF J C F) t) = nI t
theorem ukAll {C b F : Nat} {J : Nat → Prop} {fw : Int32} {sz : Nat} {sets : Nat → Int32} (hC : C < 4096) (hb : b ≤ 4096) (e : fw = nI F) (h0 : F ≤ 12) (h1 : ∀ t, ukSJ J C t → F ≤ ukPn t 12) (h2 : ∃ t, ukPF J C F t) (h3 : sz = ukK (ukPF J C F) b) (h4 : ∀ t, t < b → ukPF J C F t → sets (ukK (ukPF J C F) t) = nI t) (hn : ∀ t, b ≤ t → ¬ ukPF J C F t) : ukGf J C fw sz sets := by
  refine ⟨F, e, h0, h1, h2, ?_, fun t k => h4 t (Classical.byContradiction (fun d => hn t (by omega) k)) k⟩
  rw [h3]
  exact (ukKh hb (fun t a _ => hn t a)).symm
theorem ukGaE {J : Nat → Prop} {C : Nat} {fw : Int32} {sz : Nat} {sets : Nat → Int32} (h : ukGa J C (C + 1) fw sz sets) (hC : C < 4096) (hJ : J C) : ukGf J C fw sz sets := by
  obtain ⟨F, e, h0, h1, h2, h3, h4⟩ := h
  have le : ∀ t, t &&& C = t → t < C + 1 := fun t k => Nat.lt_succ_of_le (ukSle k)
  have sC : ukSJ J C C := ⟨Nat.and_self C, hJ⟩
  refine ukAll hC (show C + 1 ≤ 4096 by omega) e h0 (fun t k => h1 t (le t k.1) k) ?_ h3 h4 (fun t a k => absurd (le t k.1.1) (by omega))
  by_cases d : F < 12
  · obtain ⟨t, _, t2⟩ := h2 d
    exact ⟨t, t2⟩
  · have q := h1 C (by omega) sC
    have p := ukPnL (n := C) 12
    exact ⟨C, sC, by omega⟩
theorem ukPn0 {t : Nat} (h : t < 4096) (k : ukPn t 12 = 0) : t = 0 := by
  have z : ∀ m, m ≤ 12 → ukPn t m = 0 → ∀ i, i < m → t.testBit i = false := by
    intro m
    induction m with
    | zero => intro _ _ i hi; exact absurd hi (Nat.not_lt_zero _)
    | succ m ih =>
      intro hm q i hi
      have q : ukPn t m + (if t.testBit m then 1 else 0) = 0 := q
      by_cases c : t.testBit m = true
      · rw [if_pos c] at q; omega
      · by_cases d : i = m
        · subst d; exact Bool.eq_false_iff.mpr c
        · exact ih (by omega) (by omega) i (by omega)
  have l : t < 2 ^ 0 := Nat.lt_pow_two_of_testBit t (fun i _ => by
    by_cases d : i < 12
    · exact z 12 (Nat.le_refl _) k i d
    · exact Nat.testBit_lt_two_pow (Nat.lt_of_lt_of_le h (show 2 ^ 12 ≤ 2 ^ i from Nat.pow_le_pow_right (by decide) (by omega))))
  simpa using l
theorem ukGaZ {J : Nat → Prop} {C s : Nat} {fw : Int32} {sz : Nat} {sets : Nat → Int32} (h : ukGa J C (s + 1) fw sz sets) (hC : C < 4096) (hs : s < 4096) (hz : fw = 0) : ukGf J C fw sz sets := by
  obtain ⟨F, e, h0, h1, h2, h3, h4⟩ := h
  have eF : F = 0 := (nI_eq (b := 0) (by omega) (by omega)).mp (e.symm.trans hz)
  subst eF
  obtain ⟨t, _, t2⟩ := h2 (by omega)
  refine ukAll hC (show s + 1 ≤ 4096 by omega) e h0 (fun _ _ => Nat.zero_le _) ⟨t, t2⟩ h3 h4 (fun u a k => ?_)
  have q := ukPn0 (Nat.lt_of_le_of_lt (ukSle k.1.1) hC) k.2
  omega
/-- all of the same sets are the same rows -/
theorem ukGfU {J J' : Nat → Prop} {C : Nat} {fw fw' : Int32} {sz sz' : Nat} {sets sets' : Nat → Int32} (hJ : ∀ t, t &&& C = t → (J t ↔ J' t)) (h : ukGf J C fw sz sets) (h' : ukGf J' C fw' sz' sets') : fw = fw' ∧ sz = sz' ∧ ∀ i, i < sz → sets i = sets' i := by
  obtain ⟨F, e, h0, h1, ⟨t, t1⟩, h3, h4⟩ := h
  obtain ⟨F', e', h0', h1', ⟨t', t1'⟩, h3', h4'⟩ := h'
  have a1 := h1' t ⟨t1.1.1, (hJ t t1.1.1).mp t1.1.2⟩
  have a2 := h1 t' ⟨t1'.1.1, (hJ t' t1'.1.1).mpr t1'.1.2⟩
  have eF : F = F' := by
    have k1 := t1.2
    have k2 := t1'.2
    omega
  subst eF
  have eP : ∀ u, ukPF J C F u ↔ ukPF J' C F u := fun u => ⟨fun k => ⟨⟨k.1.1, (hJ u k.1.1).mp k.1.2⟩, k.2⟩, fun k => ⟨⟨k.1.1, (hJ u k.1.1).mpr k.1.2⟩, k.2⟩⟩
  have eK := ukKx eP
  refine ⟨e.trans e'.symm, ?_, fun i hi => ?_⟩
  · rw [h3, h3', eK]
  · rw [h3] at hi
    obtain ⟨u, _, u2, u3⟩ := ukKi 4096 hi
    have q := h4 u u2
    have q' := h4' u ((eP u).mp u2)
    rw [← eK] at q'
    rw [u3] at q q'
    rw [q, q']
/-! at most 252 -/
def ukBn : Nat → Nat → Nat
  | _, 0 => 1
  | 0, _ + 1 => 0
  | m + 1, f + 1 => ukBn m (f + 1) + ukBn m f
theorem ukBn252 : ∀ m : Nat, m < 11 → ∀ f : Nat, f < 13 → ukBn m f ≤ 252 := by decide +kernel
theorem ukK2 {P : Nat → Prop} : ∀ m, ukK P (2 * m) = ukK (fun t => P (2 * t)) m + ukK (fun t => P (2 * t + 1)) m
  | 0 => rfl
  | m + 1 => by
    have ih := ukK2 (P := P) m
    rw [show 2 * (m + 1) = (2 * m + 1) + 1 by omega]
    by_cases c : P (2 * m)
    · by_cases d : P (2 * m + 1)
      · rw [ukKY d, ukKY c, ih, ukKY (P := fun t => P (2 * t)) c, ukKY (P := fun t => P (2 * t + 1)) d]; omega
      · rw [ukKN d, ukKY c, ih, ukKY (P := fun t => P (2 * t)) c, ukKN (P := fun t => P (2 * t + 1)) d]; omega
    · by_cases d : P (2 * m + 1)
      · rw [ukKY d, ukKN c, ih, ukKN (P := fun t => P (2 * t)) c, ukKY (P := fun t => P (2 * t + 1)) d]; omega
      · rw [ukKN d, ukKN c, ih, ukKN (P := fun t => P (2 * t)) c, ukKN (P := fun t => P (2 * t + 1)) d]
theorem ukPn2 {n b : Nat} (hb : b < 2) : ∀ k, ukPn (2 * n + b) (k + 1) = b + ukPn n k
  | 0 => by
    show 0 + (if (2 * n + b).testBit 0 then 1 else 0) = b + 0
    rw [Nat.testBit_zero]
    have e : b = 0 ∨ b = 1 := by omega
    rcases e with e | e
    · subst e; rw [decide_eq_false (by omega)]; rfl
    · subst e; rw [decide_eq_true (by omega)]; rfl
  | k + 1 => by
    have ih := ukPn2 (n := n) hb k
    show ukPn (2 * n + b) (k + 1) + (if (2 * n + b).testBit (k + 1) then 1 else 0) = b + (ukPn n k + (if n.testBit k then 1 else 0))
    rw [ih, Nat.testBit_succ, show (2 * n + b) / 2 = n by omega, Nat.add_assoc]
theorem ukCb : ∀ k C F : Nat, C < 2 ^ k → ukK (fun t => t &&& C = t ∧ ukPn t k = F) (2 ^ k) ≤ ukBn (ukPn C k) F
  | 0, C, F, hC => by
    have e : C = 0 := by simpa using hC
    subst e
    show ukK _ 1 ≤ ukBn 0 F
    by_cases c : F = 0
    · subst c
      exact ukKle 1
    · have n0 : ¬ ((0 : Nat) &&& 0 = 0 ∧ ukPn 0 0 = F) := fun k => c k.2.symm
      rw [show (1 : Nat) = 0 + 1 from rfl, ukKN (P := fun t => t &&& 0 = t ∧ ukPn t 0 = F) n0]
      exact Nat.zero_le _
  | k + 1, C, F, hC => by
    obtain ⟨c, g, hg, rfl⟩ : ∃ c g, g < 2 ∧ C = 2 * c + g := ⟨C / 2, C % 2, by omega, by omega⟩
    rw [Nat.pow_succ] at hC
    have hc : c < 2 ^ k := by omega
    rw [Nat.pow_succ, Nat.mul_comm (2 ^ k) 2, ukK2, ukPn2 hg]
    have e0 : ∀ t, ((2 * t) &&& (2 * c + g) = 2 * t ∧ ukPn (2 * t) (k + 1) = F) ↔ (t &&& c = t ∧ ukPn t k = F) := by
      intro t
      have q := ukS22 (a := t) (b := c) (x := 0) (y := g) (by omega) hg
      have p := ukPn2 (n := t) (b := 0) (by omega) k
      rw [Nat.add_zero] at q p
      rw [q, p, Nat.zero_add]
      exact ⟨fun h => ⟨h.1.1, h.2⟩, fun h => ⟨⟨h.1, Nat.zero_le _⟩, h.2⟩⟩
    have e1 : ∀ t, ((2 * t + 1) &&& (2 * c + g) = 2 * t + 1 ∧ ukPn (2 * t + 1) (k + 1) = F) ↔ ((t &&& c = t ∧ 1 + ukPn t k = F) ∧ g = 1) := by
      intro t
      rw [ukS22 (by omega) hg, ukPn2 (by omega)]
      exact ⟨fun h => ⟨⟨h.1.1, h.2⟩, by omega⟩, fun h => ⟨⟨h.1.1, by omega⟩, h.1.2⟩⟩
    rw [ukKx e0, ukKx e1]
    have i0 := ukCb k c F hc
    by_cases d : g = 1
    · subst d
      cases F with
      | zero =>
        have z : ukK (fun t => (t &&& c = t ∧ 1 + ukPn t k = 0) ∧ (1 : Nat) = 1) (2 ^ k) = 0 := ukKh (Nat.zero_le _) (fun t _ _ h => by have := h.1.2; omega)
        rw [z]
        refine Nat.le_trans i0 ?_
        rw [show ukBn (1 + ukPn c k) 0 = 1 by unfold ukBn; rfl, show ukBn (ukPn c k) 0 = 1 by unfold ukBn; rfl]
        exact Nat.le_refl _
      | succ f =>
        have i1 := ukCb k c f hc
        have e2 : ∀ t, ((t &&& c = t ∧ 1 + ukPn t k = f + 1) ∧ (1 : Nat) = 1) ↔ (t &&& c = t ∧ ukPn t k = f) := fun t => ⟨fun h => ⟨h.1.1, by have := h.1.2; omega⟩, fun h => ⟨⟨h.1, by have := h.2; omega⟩, rfl⟩⟩
        rw [ukKx e2, Nat.add_comm 1]
        show _ ≤ ukBn (ukPn c k) (f + 1) + ukBn (ukPn c k) f
        omega
    · have z : ukK (fun t => (t &&& c = t ∧ 1 + ukPn t k = F) ∧ g = 1) (2 ^ k) = 0 := ukKh (Nat.zero_le _) (fun t _ _ h => d h.2)
      rw [z, show g = 0 by omega, Nat.zero_add]
      exact i0
theorem ukC252 {J : Nat → Prop} {C F b : Nat} (hC : C < 4096) (hp : ukPn C 12 ≤ 10) (hF : F ≤ 12) (hb : b ≤ 4096) : ukK (ukPF J C F) b ≤ 252 := by
  refine Nat.le_trans (ukKp hb) ?_
  refine Nat.le_trans (ukKm (Q := fun t => t &&& C = t ∧ ukPn t 12 = F) (fun t k => ⟨k.1.1, k.2⟩) 4096) ?_
  exact Nat.le_trans (ukCb 12 C F hC) (ukBn252 _ (by omega) F (by omega))
/-! joining: for the contracts -/
theorem ukLN {n : Nat} (h : n < 4096) : ukL (nI n) := fun q k => by
  by_cases d : q < 12
  · exact d
  · rw [ukNb (by omega), Nat.testBit_lt_two_pow (Nat.lt_of_lt_of_le h (show 2 ^ 12 ≤ 2 ^ q from Nat.pow_le_pow_right (by decide) (by omega)))] at k
    exact absurd k (by decide)
theorem ukSbN {i c : Nat} (hi : i < 2 ^ 32) (hc : c < 2 ^ 32) : (∀ q, ukB (nI i) q → ukB (nI c) q) ↔ i &&& c = i := by
  constructor
  · intro h
    refine Nat.eq_of_testBit_eq (fun q => ?_)
    rw [Nat.testBit_and]
    by_cases d : i.testBit q = true
    · rw [d, (ukNb hc).mp (h q ((ukNb hi).mpr d))]; rfl
    · rw [Bool.eq_false_iff.mpr d]; rfl
  · intro h q k
    rw [ukNb hi] at k
    rw [ukNb hc]
    rw [← h, Nat.testBit_and, Bool.and_eq_true] at k
    exact k.2
theorem ukGaR {J : Nat → Prop} {C s : Nat} {fw : Int32} {sz : Nat} {sets : Nat → Int32} (h : ukGa J C (s + 1) fw sz sets) (hC : C < 4096) (hs : s &&& C = s) (k : ¬ ukNx C s = 0) : ukGa J C (ukNx C s) fw sz sets := by
  obtain ⟨_, x2, x3⟩ := ukNxS hC hs (fun q => k (by rw [q]; exact ukNxC))
  exact ukGaX h x2 x3
theorem ukNxs {C s : Nat} (hC : C < 4096) (hs : s &&& C = s) (k : ¬ ukNx C s = 0) : ukNx C s &&& C = ukNx C s := (ukNxS hC hs (fun q => k (by rw [q]; exact ukNxC))).1
theorem ukNxl {C s : Nat} (hC : C < 4096) (hs : s &&& C = s) (k : ¬ ukNx C s = 0) : s < ukNx C s := (ukNxS hC hs (fun q => k (by rw [q]; exact ukNxC))).2.1
theorem ukGaT {J : Nat → Prop} {C s : Nat} {fw : Int32} {sz : Nat} {sets : Nat → Int32} (h : ukGa J C (s + 1) fw sz sets) (hC : C < 4096) (hs : s &&& C = s) (k : ukNx C s = 0) (hJ : J C) : ukGf J C fw sz sets := by
  have e : s = C := Classical.byContradiction (fun q => by
    have x := (ukNxS hC hs q).2.1
    omega)
  subst e
  exact ukGaE h hC hJ
theorem ukHB {J : Nat → Prop} {C s : Nat} {fw : Int32} {sz : Nat} {sets : Nat → Int32} (h : ukGa J C s fw sz sets) (hC : C < 4096) (hs : s < 4096) (few : ¬ J 0 → ukPn C 12 ≤ 10) (z : s = 0 ∨ ¬ fw = 0) : ∀ F, fw = nI F → F ≤ 12 → ukK (ukPF J C F) (s + 1) ≤ 252 := by
  intro F e hF
  rcases z with z | z
  · rw [z]
    exact Nat.le_trans (ukKle _) (by omega)
  · by_cases c : s = 0
    · rw [c]
      exact Nat.le_trans (ukKle _) (by omega)
    · have nJ : ¬ J 0 := by
        intro q
        obtain ⟨F', e', h0, h1, _⟩ := h
        have q1 := h1 0 (by omega) ⟨Nat.zero_and C, q⟩
        rw [show ukPn 0 12 = 0 by decide] at q1
        have e0 : F' = 0 := by omega
        rw [e0] at e'
        exact z e'
      exact ukC252 hC (few nJ) hF (by omega)
theorem ukFew {near : Nat → Int32} {F C : Int32} (hF : ukL F) (hd : ∀ q, ukB F q → ¬ ukB C q) (h : ¬ ukJ 12 near F 0) : ukK (ukB C) 12 ≤ 10 := by
  have ex : ∃ q, ukB F q ∧ ¬ ukCl (ukLow F) (ukR 12 near (F ||| 0)) q := Classical.byContradiction (fun c => h (fun q k => Classical.byContradiction (fun d => c ⟨q, k, d⟩)))
  obtain ⟨q, q1, q2⟩ := ex
  obtain ⟨p, p1, p2⟩ := pk_least (ukB F) ⟨q, q1⟩
  have ne : p ≠ q := fun e => q2 (ukCl0 (by rw [← e]; exact ⟨p1, p2⟩))
  have a := ukKs (P := ukB C) (Q := fun r => ukB C r ∨ r = p) (p := p) (fun r k => Or.inl k) (hd p p1) (Or.inr rfl) 12 (hF p p1)
  have b := ukKs (P := fun r => ukB C r ∨ r = p) (Q := fun r => (ukB C r ∨ r = p) ∨ r = q) (p := q) (fun r k => Or.inl k) (fun k => k.elim (hd q q1) (fun e => ne e.symm)) (Or.inr rfl) 12 (hF q q1)
  have c := ukKle (P := fun r => (ukB C r ∨ r = p) ∨ r = q) 12
  omega
theorem ukDj {S f g : Nat → Int32} {y lv ag sp : Int32} {n : Nat} (hn : n ≤ 12) : ∀ q, ukB (ukSet (ukPc S 0 y lv ag f g) n) q → ¬ ukB (ukC2 S y lv ag sp f g n) q := by
  intro q k c
  have k := ((ukSetB n (by omega)).mp k).2.1
  unfold ukC2 at c
  by_cases d : sp = 0
  · rw [uItP d] at c; exact uk0 c
  · rw [uItN d] at c
    have c := ((ukSetB n (by omega)).mp c).2.1
    exact absurd (k.symm.trans c) (by decide)
theorem ukC2L {S f g : Nat → Int32} {y lv ag sp : Int32} {n : Nat} (hn : n ≤ 12) : ukL (ukC2 S y lv ag sp f g n) := by
  unfold ukC2
  by_cases d : sp = 0
  · rw [uItP d]; exact ukL0
  · rw [uItN d]; exact ukLS hn
/-- shares -/
def ukSa (sets sh : Nat → Int32) (i j : Nat) : Prop := ∀ p, p < 12 → sh p = nI (ukK (fun k => ukB (sets k) p) (if p < j then i + 1 else i))
theorem ukSa0 {sets sh : Nat → Int32} (h : uFl 12 sh 0) : ukSa sets sh 0 0 := fun p hp => by rw [h p hp]; rfl
theorem ukSaS {sets sh : Nat → Int32} {i j : Nat} (h : ukSa sets sh i j) (hj : j < 12) : ukSa sets (upd sh j (sh j + (sets i >>> (nI j &&& 31) &&& 1))) i (j + 1) := by
  intro p hp
  by_cases c : p = j
  · subst c
    rw [pk_us, h p hp, if_neg (Nat.lt_irrefl _), if_pos (Nat.lt_succ_self _), ukBi (by omega), nI_add]
    exact congrArg nI (ukKa (P := fun k => ukB (sets k) p) rfl)
  · rw [pk_un c, h p hp]
    by_cases d : p < j
    · rw [if_pos d, if_pos (by omega)]
    · rw [if_neg d, if_neg (by omega)]
theorem ukSaO {sets sh : Nat → Int32} {i j : Nat} (h : ukSa sets sh i j) (hj : 12 ≤ j) : ukSa sets sh (i + 1) 0 := fun p hp => by
  rw [h p hp, if_pos (by omega), if_neg (Nat.not_lt_zero _)]
theorem ukSaE {sets sh : Nat → Int32} {i n : Nat} (h : ukSa sets sh i 0) (e : i = n) : ∀ p, p < 12 → sh p = nI (ukK (fun k => ukB (sets k) p) n) := fun p hp => by
  rw [h p hp, if_neg (Nat.not_lt_zero _), e]
/-- what find tells -/
def ukFd (near : Nat → Int32) (F C r any : Int32) (sz : Nat) (sets sh : Nat → Int32) : Prop :=
  (¬ ukJ 12 near F C ∧ r = -1 ∧ any = 0) ∨ (any = 1 ∧ ukGf (fun t => ukJ 12 near F (nI t)) (uN C) r sz sets ∧ ∀ p, p < 12 → sh p = nI (ukK (fun k => ukB (sets k) p) sz))
def ukFm (n : Nat) (near : Nat → Int32) (F C r js : Int32) (sz : Nat) (sets : Nat → Int32) : Prop :=
  (r = -1 ∧ js = 0 ∧ ∀ t, ¬ ukSJ (fun t => ukJ n near F (nI t)) (uN C) t) ∨ (js = 1 ∧ ukGf (fun t => ukJ n near F (nI t)) (uN C) r sz sets)
/-- the model's round -/
def ukGm (J : Nat → Prop) (C b : Nat) (le : Int32) (sz : Nat) (sets : Nat → Int32) : Prop :=
  (le = -1 ∧ ∀ t, t < b → ¬ ukSJ J C t) ∨ (¬ le = -1 ∧ ukGa J C b le sz sets ∧ ∃ t, t < b ∧ ukSJ J C t)
theorem ukGm0 {J : Nat → Prop} {C sz : Nat} {sets : Nat → Int32} : ukGm J C 0 (-1) sz sets := Or.inl ⟨rfl, fun t h => absurd h (Nat.not_lt_zero _)⟩
theorem ukGmN {J : Nat → Prop} {C s : Nat} {le : Int32} {sz : Nat} {sets : Nat → Int32} (h : ukGm J C s le sz sets) (c : ¬ ukSJ J C s) : ukGm J C (s + 1) le sz sets := by
  rcases h with ⟨h1, h2⟩ | ⟨h1, h2, t, t1, t2⟩
  · refine Or.inl ⟨h1, fun t ht => ?_⟩
    by_cases d : t = s
    · subst d; exact c
    · exact h2 t (by omega)
  · exact Or.inr ⟨h1, ukGaK h2 (fun F e h0 k => absurd k c), t, by omega, t2⟩
theorem ukGmA {J : Nat → Prop} {C s : Nat} {le : Int32} {sz : Nat} {sets : Nat → Int32} (h : ukGm J C s le sz sets) (n : ¬ le = -1) (c : le < nI (ukPn s 12)) : ukGm J C (s + 1) le sz sets := by
  rcases h with ⟨h1, h2⟩ | ⟨h1, h2, t, t1, t2⟩
  · exact absurd h1 n
  · exact Or.inr ⟨h1, ukGaA h2 c, t, by omega, t2⟩
theorem ukNm1 {n : Nat} (h : n ≤ 12) : ¬ nI n = -1 := uNn (by omega) (by decide)
theorem ukGmF {J : Nat → Prop} {C s : Nat} {le : Int32} {sz : Nat} {sets : Nat → Int32} (h : ukGm J C s le sz sets) (hs : s &&& C = s) (hJ : J s) (c : le = -1 ∨ nI (ukPn s 12) < le) : ukGm J C (s + 1) (nI (ukPn s 12)) 1 (upd sets 0 (nI s)) := by
  have p := ukPnL (n := s) 12
  refine Or.inr ⟨ukNm1 p, ?_, s, by omega, hs, hJ⟩
  have hs2 : ukPF J C (ukPn s 12) s := ⟨⟨hs, hJ⟩, rfl⟩
  have no : ∀ t, 0 ≤ t → t < s → ¬ ukPF J C (ukPn s 12) t := by
    intro t _ ht k
    rcases h with ⟨_, h2⟩ | ⟨h1, ⟨F, e, h0, h3, _⟩, _⟩
    · exact h2 t ht k.1
    · have q := h3 t ht k.1
      have k2 := k.2
      rcases c with c | c
      · exact h1 c
      · rw [e] at c
        have c := (nI_ltI (by omega) (by omega)).mp c
        omega
  have ge : ∀ t, t < s → ukSJ J C t → ukPn s 12 ≤ ukPn t 12 := by
    intro t ht k
    rcases h with ⟨_, h2⟩ | ⟨h1, ⟨F, e, h0, h3, _⟩, _⟩
    · exact absurd k (h2 t ht)
    · have q := h3 t ht k
      rcases c with c | c
      · exact absurd c h1
      · rw [e] at c
        have c := (nI_ltI (by omega) (by omega)).mp c
        omega
  have z : ukK (ukPF J C (ukPn s 12)) s = 0 := ukKh (Nat.zero_le _) no
  refine ⟨ukPn s 12, rfl, p, fun t ht k => ?_, fun _ => ⟨s, by omega, hs2⟩, ?_, fun t ht k => ?_⟩
  · by_cases d : t = s
    · subst d; exact Nat.le_refl _
    · exact ge t (by omega) k
  · rw [ukKY hs2, z]
  · by_cases d : t = s
    · subst d; rw [z, pk_us]
    · exact absurd k (no t (Nat.zero_le _) (by omega))
theorem ukGmC {J : Nat → Prop} {C s : Nat} {le : Int32} {sz : Nat} {sets : Nat → Int32} (h : ukGm J C s le sz sets) (hs : s &&& C = s) (hJ : J s) (n : ¬ le = -1) (c : ¬ le < nI (ukPn s 12)) (c2 : ¬ nI (ukPn s 12) < le) : ukGm J C (s + 1) (nI (ukPn s 12)) (sz + 1) (upd sets sz (nI s)) := by
  have p := ukPnL (n := s) 12
  rcases h with ⟨h1, _⟩ | ⟨h1, ⟨F, e, h0, h3, h4, h5, h6⟩, _⟩
  · exact absurd h1 n
  · have eF : ukPn s 12 = F := by
      rw [e] at c c2
      have q1 : ¬ F < ukPn s 12 := fun q => c ((nI_ltI (by omega) (by omega)).mpr q)
      have q2 : ¬ ukPn s 12 < F := fun q => c2 ((nI_ltI (by omega) (by omega)).mpr q)
      omega
    have hs2 : ukPF J C F s := ⟨⟨hs, hJ⟩, eF⟩
    refine Or.inr ⟨ukNm1 p, ⟨F, by rw [eF], h0, fun t ht k => ?_, fun _ => ⟨s, by omega, hs2⟩, ?_, fun t ht k => ?_⟩, s, by omega, hs, hJ⟩
    · by_cases d : t = s
      · subst d; omega
      · exact h3 t (by omega) k
    · rw [ukKY hs2, h5]
    · by_cases d : t = s
      · subst d; rw [h5, pk_us]
      · have q := ukKt k (show t < s by omega)
        rw [pk_un (by omega)]
        exact h6 t (by omega) k
theorem ukGmZ {J : Nat → Prop} {C b : Nat} {le : Int32} {sz : Nat} {sets : Nat → Int32} (h : ukGm J C b le sz sets) (n : ¬ le = -1) : sz ≤ b := by
  rcases h with ⟨h1, _⟩ | ⟨_, ⟨F, _, _, _, _, h5, _⟩, _⟩
  · exact absurd h1 n
  · rw [h5]; exact ukKle _
theorem ukGmE {J : Nat → Prop} {C b : Nat} {le : Int32} {sz : Nat} {sets : Nat → Int32} (h : ukGm J C b le sz sets) (hC : C < b) (hb : b ≤ 4096) : (le = -1 ∧ ∀ t, ¬ ukSJ J C t) ∨ (¬ le = -1 ∧ ukGf J C le sz sets) := by
  have lt : ∀ t, t &&& C = t → t < b := fun t k => Nat.lt_of_le_of_lt (ukSle k) hC
  rcases h with ⟨h1, h2⟩ | ⟨h1, ⟨F, e, h0, h3, h4, h5, h6⟩, t, t1, t2⟩
  · exact Or.inl ⟨h1, fun t k => h2 t (lt t k.1) k⟩
  · refine Or.inr ⟨h1, ukAll (show C < 4096 by omega) hb e h0 (fun t k => h3 t (lt t k.1) k) ?_ h5 h6 (fun t a k => absurd (lt t k.1.1) (by omega))⟩
    by_cases d : F < 12
    · obtain ⟨t, _, q⟩ := h4 d
      exact ⟨t, q⟩
    · have q := h3 t t1 t2
      have p := ukPnL (n := t) 12
      exact ⟨t, t2, by omega⟩
def ukP2 (n : Nat) : Nat := 2 ^ n
set_option maxRecDepth 100000 in
theorem ukSp0 : ∀ p : Nat, p < 13 → (1 : Int32) <<< (nI p &&& 31) = nI (ukP2 p) ∧ ukP2 p ≤ 4096 ∧ 1 ≤ ukP2 p := by decide +kernel
theorem ukCP {c n : Nat} (hc : c < 2 ^ 32) (h : ∀ q, ukB (nI c) q → q < n) : c < ukP2 n := by
  unfold ukP2
  refine Nat.lt_pow_two_of_testBit c (fun i hi => ?_)
  by_cases d : c.testBit i = true
  · exact absurd (h i ((ukNb hc).mpr d)) (by omega)
  · exact Bool.eq_false_iff.mpr d
/-- a join out of a line as drawn -/
def ukAj (D U : Prop) (s a b : Nat → Int32) (nn : Nat) (S : Nat → Int32) (n : Nat) (y lv : Int32) (lk : Nat → Nat → Int32) (A : Int32 → Int32 → (Nat → Int32) → Prop) (r : Int32) : Prop :=
  (¬ D ∧ r = -1 ∧ U) ∨ (D ∧ ∃ st f g ag near, ukDr s a b nn 24 st f g ag ∧ ukT 12 near (fun a b => a < b ∧ b < n ∧ ukLk (ukSet (ukPc S 0 y lv ag f g) n) (ukC2 S y lv ag 1 f g n) lk lv a b) ∧ A (ukSet (ukPc S 0 y lv ag f g) n) (ukC2 S y lv ag 1 f g n) near)
def ukAk (D U : Prop) (s a b : Nat → Int32) (nn : Nat) (S : Nat → Int32) (n : Nat) (y lv : Int32) (lk : Nat → Nat → Int32) (A : Int32 → Int32 → (Nat → Int32) → Prop) (r : Int32) : Prop :=
  (¬ D ∧ r = -1 ∧ U) ∨ (D ∧ ∃ st f g ag near, ukDr s a b nn (2 * n) st f g ag ∧ ukT n near (fun a b => b < a ∧ a < n ∧ ukLk (ukSet (ukPm S 0 y lv ag f g) n) (ukSet (ukPm S 1 y lv ag f g) n) lk lv a b) ∧ A (ukSet (ukPm S 0 y lv ag f g) n) (ukSet (ukPm S 1 y lv ag f g) n) near)
/-- the rivals of both -/
def ukRv (any : Int32) (sz : Nat) (sets sh : Nat → Int32) (js : Int32) (rm : Nat) (rv : Nat → Int32) (ws : Int32) : Prop :=
  any = js ∧ (any = 0 ∨ any = 1) ∧ (any = 1 → sz = rm ∧ (∀ i, i < sz → sets i = rv i) ∧ (∀ p, p < 12 → sh p = nI (ukK (fun k => ukB (sets k) p) sz)) ∧ ∀ i, i < sz → ∀ q, ukB (sets i) q → ukB ws q)
theorem ukFE {near near' : Nat → Int32} {F C r r' any js : Int32} {n sz rm : Nat} {sets sh rv : Nat → Int32} (hn : n ≤ 12) (hF : ∀ q, ukB (F ||| C) q → q < n) (h : ukE n near near' (F ||| C)) (c : ukFd near F C r any sz sets sh) (k : ukFm n near' F C r' js rm rv) : r = r' ∧ any = js ∧ (any = 0 ∨ any = 1) ∧ (any = 1 → sz = rm ∧ (∀ i, i < sz → sets i = rv i) ∧ (∀ p, p < 12 → sh p = nI (ukK (fun k => ukB (sets k) p) sz)) ∧ ∀ i, i < sz → ∀ q, ukB (sets i) q → ukB C q) := by
  have hC : ukL C := fun q k => Nat.lt_of_lt_of_le (hF q (ukO.mpr (Or.inr k))) hn
  obtain ⟨m, hm, em⟩ := ukLn hC
  have eN : uN C = m := uNe (by omega) em
  have sub : ∀ t, t &&& m = t → ∀ q, ukB (nI t) q → ukB C q := fun t ht q hq => by
    have l := ukSle ht
    rw [em]
    exact (ukSbN (by omega) (by omega)).mpr ht q hq
  have eJ : ∀ t, t &&& m = t → (ukJ 12 near F (nI t) ↔ ukJ n near' F (nI t)) := fun t ht => ukJE hn hF h (sub t ht)
  rcases c with ⟨c1, c2, c3⟩ | ⟨c1, c2, c3⟩
  · rcases k with ⟨k1, k2, _⟩ | ⟨_, k2⟩
    · exact ⟨by rw [c2, k1], by rw [c3, k2], Or.inl c3, fun e => absurd (c3.symm.trans e) (by decide)⟩
    · obtain ⟨_, _, _, _, ⟨t, t1⟩, _⟩ := k2
      rw [eN] at t1
      exact absurd (ukJM (sub t t1.1.1) ((eJ t t1.1.1).mpr t1.1.2)) c1
  · rcases k with ⟨_, _, k3⟩ | ⟨k1, k2⟩
    · obtain ⟨_, _, _, _, ⟨t, t1⟩, _⟩ := c2
      rw [eN] at t1 k3
      exact absurd ⟨t1.1.1, (eJ t t1.1.1).mp t1.1.2⟩ (k3 t)
    · rw [eN] at c2 k2
      obtain ⟨e1, e2, e3⟩ := ukGfU eJ c2 k2
      refine ⟨e1, by rw [c1, k1], Or.inr c1, fun _ => ⟨e2, e3, c3, fun i hi q hq => ?_⟩⟩
      obtain ⟨G, _, _, _, _, g5, g6⟩ := c2
      rw [g5] at hi
      obtain ⟨u, _, u2, u3⟩ := ukKi 4096 hi
      have x := g6 u u2
      rw [u3] at x
      rw [x] at hq
      exact sub u u2.1.1 q hq
theorem ukC2E {S f g : Nat → Int32} {y lv ag : Int32} {n : Nat} : ukC2 S y lv ag 1 f g n = ukSet (ukPc S 1 y lv ag f g) n := uItN (by decide)
theorem ukAJE {D U U' Q : Prop} {s a b S : Nat → Int32} {nn n sz rm : Nat} {y lv r r' any js ws : Int32} {lk lk' : Nat → Nat → Int32} {sets sh rv : Nat → Int32} (rs : uRg s 0 6) (h : uNp s a b nn n) (hn : n ≤ 12) (hl : D → (0 : Int32) < lv) (s1 : ∀ a b, lk a b = lk b a) (e : D → ∀ a b, a < n → b < n → lk a b = lk' a b) (hU : U → U' → Q) (hQ : ukRv any sz sets sh js rm rv ws → Q) (c : ukAj D U s a b nn S n y lv lk (fun F C near => ukFd near F C r any sz sets sh) r) (k : ukAk D U' s a b nn S n y lv lk' (fun F C near => ukFm n near F C r' js rm rv ∧ ws = ukSet (fun p => S p = 1) n) r') : r = r' ∧ Q := by
  rcases c with ⟨c1, c2, c3⟩ | ⟨c1, st, f, g, ag, near, d, t, w⟩
  · rcases k with ⟨_, k2, k3⟩ | ⟨k1, _⟩
    · exact ⟨by rw [c2, k2], hU c3 k3⟩
    · exact absurd k1 c1
  · rcases k with ⟨k1, _⟩ | ⟨_, st', f', g', ag', near', d', t', w', w2⟩
    · exact absurd c1 k1
    · obtain ⟨aL, aG, eg⟩ := ukDrU rs h (Nat.le_refl _) hn d d'
      subst eg
      have eF := ukPE (S := S) (k := 0) (y := y) (ag := ag) (hl c1) aL aG (Nat.le_refl _) hn
      have eC := ukPE (S := S) (k := 1) (y := y) (ag := ag) (hl c1) aL aG (Nat.le_refl _) hn
      rw [ukC2E] at t w
      rw [← eF, ← eC] at t' w'
      have hF : ∀ q, ukB (ukSet (ukPc S 0 y lv ag f g) n ||| ukSet (ukPc S 1 y lv ag f g) n) q → q < n := fun q k => (ukO.mp k).elim (fun k => ((ukSetB n (by omega)).mp k).1) (fun k => ((ukSetB n (by omega)).mp k).1)
      obtain ⟨x1, x2, x3, x4⟩ := ukFE hn hF (ukNE2 hn hF s1 (e c1) t t') w w'
      refine ⟨x1, hQ ⟨x2, x3, fun q => ?_⟩⟩
      obtain ⟨y1, y2, y3, y4⟩ := x4 q
      refine ⟨y1, y2, y3, fun i hi q hq => ?_⟩
      rw [w2]
      have z := (ukSetB n (by omega)).mp (y4 i hi q hq)
      exact (ukSetB n (by omega)).mpr ⟨z.1, z.2.1⟩
theorem ukSbC {j c : Nat} {x : Int32} (e : x = nI c) (hj : j < 2 ^ 31) (hc : c < 2 ^ 31) : nI j &&& (x ^^^ (-1)) = 0 ↔ j &&& c = j := by
  rw [ukSub, e]
  exact ukSbN (by omega) (by omega)
theorem ukJz {n : Nat} {near : Nat → Int32} {F x : Int32} (e : F = 0) : ukJ n near F x := by rw [e]; exact ukJ0
theorem ukFmI {n C b : Nat} {near : Nat → Int32} {F Cx le : Int32} {sz : Nat} {sets : Nat → Int32} (h : ukGm (fun t => ukJ n near F (nI t)) C b le sz sets) (hC : C < b) (hb : b ≤ 4096) (e : Cx = nI C) : (le = -1 → ukFm n near F Cx le 0 sz sets) ∧ (¬ le = -1 → ukFm n near F Cx le 1 sz sets) := by
  have eN : uN Cx = C := uNe (by omega) e
  unfold ukFm
  rw [eN]
  rcases ukGmE h hC hb with ⟨k1, k2⟩ | ⟨k1, k2⟩
  · exact ⟨fun q => Or.inl ⟨q, rfl, k2⟩, fun q => absurd k1 q⟩
  · exact ⟨fun q => absurd q k1, fun _ => Or.inr ⟨rfl, k2⟩⟩
theorem ukGfN {near : Nat → Int32} {F C fw : Int32} {c sz : Nat} {sets : Nat → Int32} (e : C = nI c) (hc : c < 4096) (h : ukGf (fun t => ukJ 12 near F (nI t)) c fw sz sets) : ukGf (fun t => ukJ 12 near F (nI t)) (uN C) fw sz sets := by
  rw [uNe (show c < 2 ^ 31 by omega) e]; exact h
theorem ukFwN {near : Nat → Int32} {F C : Int32} {c : Nat} (e : C = nI c) (hc : c < 4096) (h : ¬ ukJ 12 near F 0 → ukK (ukB C) 12 ≤ 10) : ¬ ukJ 12 near F (nI 0) → ukPn c 12 ≤ 10 := by
  intro k
  rw [ukPnK (by omega), ← e]
  exact h k
/-! what was joined -/
theorem ukRvL {D : Prop} {any any' js js' ws : Int32} {sz sz' rm : Nat} {sets sh rv : Nat → Int32} (h : ukRv any sz sets sh js rm rv ws) (e1 : any' = uIte D 0 any) (e2 : sz' = uIte D 0 sz) (e3 : js' = uIte D 0 js) : ukRv any' sz' sets sh js' rm rv ws := by
  by_cases d : D
  · rw [uItP d] at e1 e3
    exact ⟨by rw [e1, e3], Or.inl e1, fun q => absurd (e1.symm.trans q) (by decide)⟩
  · rw [uItN d] at e1 e2 e3
    rw [e1, e2, e3]
    exact h
theorem ukRv0 {sz rm : Nat} {sets sh rv : Nat → Int32} {ws : Int32} : ukRv 0 sz sets sh 0 rm rv ws := ⟨rfl, Or.inl rfl, fun q => absurd q (by decide)⟩
noncomputable def ukJq (any w k : Int32) (n sz : Nat) (g sh : Nat → Int32) : Int32 := uIte (any = 0) (-1) (uIte (w = 0) (nI sz) (uIte (w = 1) (uIte (uHas n k) (sh (uN k)) (-1)) (uIte (w = 2) (uIte (uHas sz k) (g (uN k)) (-1)) (-1))))
theorem uHasN {n a : Nat} {k : Int32} (e : k = nI a) (h : a < n) (hn : n < 2 ^ 31) : uHas n k := by
  unfold uHas
  rw [e, nI_toInt (by omega)]
  omega
theorem uHasI {n : Nat} {k : Int32} (h : uHas n k) : uN k < n := by
  unfold uHas at h
  unfold uN
  omega
theorem ukJqE {any js ws w k : Int32} {n sz rm : Nat} {sets sh rv : Nat → Int32} (h : ukRv any sz sets sh js rm rv ws) (hn : n ≤ 12) : ukJq any w k n sz sets sh = ukJq js w k n rm rv (fun p => nI (ukK (fun i => ukB (rv i) p) rm)) := by
  obtain ⟨h1, h2, h3⟩ := h
  unfold ukJq
  rw [← h1]
  rcases h2 with e | e
  · rw [uItP e, uItP e]
  · have ne : ¬ any = 0 := by rw [e]; decide
    obtain ⟨k1, k2, k3, _⟩ := h3 e
    rw [uItN ne, uItN ne, k1]
    by_cases w0 : w = 0
    · rw [uItP w0, uItP w0]
    · rw [uItN w0, uItN w0]
      by_cases w1 : w = 1
      · rw [uItP w1, uItP w1]
        by_cases c : uHas n k
        · have l := uHasI c
          rw [uItP c, uItP c, k3 (uN k) (by omega), k1]
          refine congrArg nI ?_
          have x : ∀ m, m ≤ rm → ukK (fun i => ukB (sets i) (uN k)) m = ukK (fun i => ukB (rv i) (uN k)) m := by
            intro m
            induction m with
            | zero => intro _; rfl
            | succ m ih =>
              intro hm
              have i1 := ih (by omega)
              have i2 := k2 m (by omega)
              by_cases d : ukB (sets m) (uN k)
              · rw [ukKY (P := fun i => ukB (sets i) (uN k)) d, ukKY (P := fun i => ukB (rv i) (uN k)) (by rw [← i2]; exact d), i1]
              · rw [ukKN (P := fun i => ukB (sets i) (uN k)) d, ukKN (P := fun i => ukB (rv i) (uN k)) (by rw [← i2]; exact d), i1]
          exact x rm (Nat.le_refl _)
        · rw [uItN c, uItN c]
      · rw [uItN w1, uItN w1]
        by_cases w2 : w = 2
        · rw [uItP w2, uItP w2]
          by_cases c : uHas rm k
          · have l := uHasI c
            rw [uItP c, uItP c]
            exact k2 (uN k) (by omega)
          · rw [uItN c, uItN c]
        · rw [uItN w2, uItN w2]
/-! where to dig -/
def ukBe (x0 : Nat) : Int32 := ((((((((nI x0) - ((nI (x0 / 2)) &&& 1431655765)) &&& 858993459) + (((((nI x0) - ((nI (x0 / 2)) &&& 1431655765)).toUInt32 >>> ((2 : Int32).toUInt32 &&& Int32.toUInt32 31)).toInt32) &&& 858993459)) + ((((((nI x0) - ((nI (x0 / 2)) &&& 1431655765)) &&& 858993459) + (((((nI x0) - ((nI (x0 / 2)) &&& 1431655765)).toUInt32 >>> ((2 : Int32).toUInt32 &&& Int32.toUInt32 31)).toInt32) &&& 858993459)).toUInt32 >>> ((4 : Int32).toUInt32 &&& Int32.toUInt32 31)).toInt32)) &&& 252645135) + ((((((((nI x0) - ((nI (x0 / 2)) &&& 1431655765)) &&& 858993459) + (((((nI x0) - ((nI (x0 / 2)) &&& 1431655765)).toUInt32 >>> ((2 : Int32).toUInt32 &&& Int32.toUInt32 31)).toInt32) &&& 858993459)) + ((((((nI x0) - ((nI (x0 / 2)) &&& 1431655765)) &&& 858993459) + (((((nI x0) - ((nI (x0 / 2)) &&& 1431655765)).toUInt32 >>> ((2 : Int32).toUInt32 &&& Int32.toUInt32 31)).toInt32) &&& 858993459)).toUInt32 >>> ((4 : Int32).toUInt32 &&& Int32.toUInt32 31)).toInt32)) &&& 252645135).toUInt32 >>> ((8 : Int32).toUInt32 &&& Int32.toUInt32 31)).toInt32)) + (((((((((nI x0) - ((nI (x0 / 2)) &&& 1431655765)) &&& 858993459) + (((((nI x0) - ((nI (x0 / 2)) &&& 1431655765)).toUInt32 >>> ((2 : Int32).toUInt32 &&& Int32.toUInt32 31)).toInt32) &&& 858993459)) + ((((((nI x0) - ((nI (x0 / 2)) &&& 1431655765)) &&& 858993459) + (((((nI x0) - ((nI (x0 / 2)) &&& 1431655765)).toUInt32 >>> ((2 : Int32).toUInt32 &&& Int32.toUInt32 31)).toInt32) &&& 858993459)).toUInt32 >>> ((4 : Int32).toUInt32 &&& Int32.toUInt32 31)).toInt32)) &&& 252645135) + ((((((((nI x0) - ((nI (x0 / 2)) &&& 1431655765)) &&& 858993459) + (((((nI x0) - ((nI (x0 / 2)) &&& 1431655765)).toUInt32 >>> ((2 : Int32).toUInt32 &&& Int32.toUInt32 31)).toInt32) &&& 858993459)) + ((((((nI x0) - ((nI (x0 / 2)) &&& 1431655765)) &&& 858993459) + (((((nI x0) - ((nI (x0 / 2)) &&& 1431655765)).toUInt32 >>> ((2 : Int32).toUInt32 &&& Int32.toUInt32 31)).toInt32) &&& 858993459)).toUInt32 >>> ((4 : Int32).toUInt32 &&& Int32.toUInt32 31)).toInt32)) &&& 252645135).toUInt32 >>> ((8 : Int32).toUInt32 &&& Int32.toUInt32 31)).toInt32)).toUInt32 >>> ((16 : Int32).toUInt32 &&& Int32.toUInt32 31)).toInt32)) &&& 63
set_option maxRecDepth 100000 in
theorem ukBe0 : ∀ a : Nat, a < 64 → ∀ b : Nat, b < 64 → ukBe (64 * a + b) = nI (ukPn (64 * a + b) 12) := by decide +kernel
theorem ukBc {x0 : Nat} (h : x0 < 4096) : ukBe x0 = nI (ukPn x0 12) := by
  have q := ukBe0 (x0 / 64) (by omega) (x0 % 64) (by omega)
  rw [show 64 * (x0 / 64) + x0 % 64 = x0 by omega] at q
  exact q

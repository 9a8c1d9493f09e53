noncomputable def uIte {α : Type} (P : Prop) (a b : α) : α := @ite α P (Classical.propDecidable P) a b
theorem uItP {α : Type} {P : Prop} {a b : α} (h : P) : uIte P a b = a := by unfold uIte; exact if_pos h
theorem uItN {α : Type} {P : Prop} {a b : α} (h : ¬ P) : uIte P a b = b := by unfold uIte; exact if_neg h
def uN (x : Int32) : Nat := x.toInt.toNat
theorem uNe {x : Int32} {a : Nat} (h : a < 2 ^ 31) (e : x = nI a) : uN x = a := by rw [e]; exact congrArg Int.toNat (nI_toInt h)
def uDF (k : Nat) : Prop := k ≤ 980
def uDR (x : Int32) (k : Nat) : Prop := 0 ≤ x.toInt ∧ x.toInt ≤ (k : Int)
/-! the reader: runs of signs -/
def urSp (P : Nat → Prop) (p q : Nat) : Prop := ∀ i, p ≤ i → i < q → P i
theorem urSp0 {P : Nat → Prop} {p : Nat} : urSp P p p := fun i h k => by omega
theorem urSpS {P : Nat → Prop} {p q : Nat} (h : urSp P p q) (k : P q) : urSp P p (q + 1) := by
  intro i h1 h2
  by_cases c : i = q
  · subst c; exact k
  · exact h i h1 (by omega)
def urRun (P : Nat → Prop) (n p q : Nat) : Prop := p ≤ q ∧ (q ≤ n ∨ q = p) ∧ urSp P p q ∧ (q < n → ¬ P q)
theorem urRunU {P : Nat → Prop} {n p q r : Nat} (h : urRun P n p q) (k : urRun P n p r) : q = r := by
  obtain ⟨h1, h2, h3, h4⟩ := h
  obtain ⟨k1, k2, k3, k4⟩ := k
  by_cases c : q < r
  · exact absurd (k3 q h1 c) (h4 (by omega))
  · by_cases d : r < q
    · exact absurd (h3 r k1 d) (k4 (by omega))
    · omega
noncomputable def urTf (P : Nat → Prop) : Nat → Nat → Nat
  | 0, p => p
  | k + 1, p => uIte (P p) (urTf P k (p + 1)) p
noncomputable def urTo (P : Nat → Prop) (n p : Nat) : Nat := urTf P (n - p) p
theorem urTfR {P : Nat → Prop} {n : Nat} : ∀ k p : Nat, n - p = k → urRun P n p (urTf P k p)
  | 0, p, e => ⟨Nat.le_refl _, Or.inr rfl, urSp0, fun h => by have h : p < n := h; omega⟩
  | k + 1, p, e => by
    by_cases c : P p
    · have ih := urTfR (P := P) (n := n) k (p + 1) (by omega)
      show urRun P n p (uIte (P p) (urTf P k (p + 1)) p)
      rw [uItP c]
      obtain ⟨h1, h2, h3, h4⟩ := ih
      refine ⟨by omega, by omega, ?_, h4⟩
      intro i hi hq
      by_cases d : i = p
      · subst d; exact c
      · exact h3 i (by omega) hq
    · show urRun P n p (uIte (P p) (urTf P k (p + 1)) p)
      rw [uItN c]
      exact ⟨Nat.le_refl _, Or.inr rfl, urSp0, fun _ => c⟩
theorem urToR {P : Nat → Prop} {n p : Nat} : urRun P n p (urTo P n p) := urTfR _ _ rfl
theorem urToU {P : Nat → Prop} {n p q : Nat} (h : urRun P n p q) : q = urTo P n p := urRunU h urToR
theorem urToL {P : Nat → Prop} {n p : Nat} (h : p ≤ n) : urTo P n p ≤ n := by
  have k := (urToR (P := P) (n := n) (p := p)).2.1
  omega
theorem urToY {P : Nat → Prop} {n p : Nat} (h : p < n) (c : P p) : p < urTo P n p := by
  have k := (urToR (P := P) (n := n) (p := p))
  by_cases d : urTo P n p = p
  · exact absurd c (by have q := k.2.2.2; rw [d] at q; exact q h)
  · have := k.1; omega
/-- the end of a run, by its loop -/
theorem urToE1 {P : Nat → Prop} {n p q : Nat} (h : p ≤ q) (h2 : q ≤ n ∨ q = p) (s : urSp P p q) (c : n ≤ q) : q = urTo P n p := urToU ⟨h, h2, s, fun k => by omega⟩
theorem urToE2 {P : Nat → Prop} {n p q : Nat} (h : p ≤ q) (h2 : q ≤ n ∨ q = p) (s : urSp P p q) (c : ¬ P q) : q = urTo P n p := urToU ⟨h, h2, s, fun _ => c⟩
/-! signs -/
def urLx (x : Int32) : Prop := 97 ≤ x.toInt ∧ x.toInt ≤ 122
def urDx (x : Int32) : Prop := 48 ≤ x.toInt ∧ x.toInt ≤ 57
def urLt (t : Nat → Int32) (i : Nat) : Prop := urLx (t i)
def urDg (t : Nat → Int32) (i : Nat) : Prop := urDx (t i)
def urBl (t : Nat → Int32) (i : Nat) : Prop := t i = 32 ∨ t i = 10
theorem urLtY {t : Nat → Int32} {j a : Nat} (e : t j = nI a) (w : 97 ≤ a ∧ a ≤ 122) : urLt t j := by
  unfold urLt urLx
  rw [e, nI_toInt (by omega)]
  omega
theorem urLtN {t : Nat → Int32} {j a : Nat} (e : t j = nI a) (h : a < 2 ^ 31) (w : ¬ (97 ≤ a ∧ a ≤ 122)) : ¬ urLt t j := by
  intro q
  unfold urLt urLx at q
  rw [e, nI_toInt h] at q
  omega
theorem urDgY {t : Nat → Int32} {j a : Nat} (e : t j = nI a) (w : 48 ≤ a ∧ a ≤ 57) : urDg t j := by
  unfold urDg urDx
  rw [e, nI_toInt (by omega)]
  omega
theorem urDgN {t : Nat → Int32} {j a : Nat} (e : t j = nI a) (h : a < 2 ^ 31) (w : ¬ (48 ≤ a ∧ a ≤ 57)) : ¬ urDg t j := by
  intro q
  unfold urDg urDx at q
  rw [e, nI_toInt h] at q
  omega
theorem urBlY {t : Nat → Int32} {j a : Nat} (e : t j = nI a) (h : a = 32 ∨ a = 10) : urBl t j := by
  rcases h with rfl | rfl
  · exact Or.inl e
  · exact Or.inr e
theorem urBlN {t : Nat → Int32} {j a : Nat} (e : t j = nI a) (ha : a < 2 ^ 31) (h1 : ¬ a = 32) (h2 : ¬ a = 10) : ¬ urBl t j := by
  intro q
  unfold urBl at q
  rw [e] at q
  rcases q with q | q
  · exact h1 ((nI_eq (b := 32) ha (by decide)).mp q)
  · exact h2 ((nI_eq (b := 10) ha (by decide)).mp q)
theorem urLtD {t : Nat → Int32} {j : Nat} (h : urLt t j) : 97 ≤ uN (t j) ∧ uN (t j) ≤ 122 := by
  unfold urLt urLx at h
  unfold uN
  omega
def urNb (t : Nat → Int32) (p : Nat) : Nat → Nat
  | 0 => 0
  | l + 1 => min (urNb t p l * 10 + (uN (t (p + l)) - 48)) 1000
def urVb (t : Nat → Int32) (p : Nat) : Nat → Nat
  | 0 => 0
  | l + 1 => if 9999 < urVb t p l then urVb t p l else 10 * urVb t p l + (uN (t (p + l)) - 48)
theorem urVN {t : Nat → Int32} {p : Nat} : ∀ l, min (urVb t p l) 1000 = urNb t p l
  | 0 => rfl
  | l + 1 => by
    have ih := urVN (t := t) (p := p) l
    show min (if 9999 < urVb t p l then urVb t p l else 10 * urVb t p l + (uN (t (p + l)) - 48)) 1000 = min (urNb t p l * 10 + (uN (t (p + l)) - 48)) 1000
    rw [← ih]
    split <;> omega
theorem urNbS {t : Nat → Int32} {p q v a e : Nat} (h : v = urNb t p (q - p)) (hq : p ≤ q) (ea : t q = nI a) (ha : a < 2 ^ 31) (he : e = min (v * 10 + a - 48) 1000) (h48 : 48 ≤ a) : e = urNb t p (q + 1 - p) := by
  rw [show q + 1 - p = (q - p) + 1 by omega]
  show e = min (urNb t p (q - p) * 10 + (uN (t (p + (q - p))) - 48)) 1000
  rw [← h, show p + (q - p) = q by omega, uNe ha ea]
  omega
theorem urVbS {t : Nat → Int32} {p q v a e : Nat} (h : v = urVb t p (q - p)) (hq : p ≤ q) (ea : t q = nI a) (ha : a < 2 ^ 31) (h48 : 48 ≤ a) (he : (9999 < v ∧ e = v) ∨ (¬ 9999 < v ∧ e = 10 * v + a - 48)) : e = urVb t p (q + 1 - p) := by
  rw [show q + 1 - p = (q - p) + 1 by omega]
  show e = if 9999 < urVb t p (q - p) then urVb t p (q - p) else 10 * urVb t p (q - p) + (uN (t (p + (q - p))) - 48)
  rw [← h, show p + (q - p) = q by omega, uNe ha ea]
  split <;> omega
/-! rows of digits -/
def urFo (b : Nat) (d : Nat → Nat) : Nat → Nat
  | 0 => 0
  | l + 1 => b * urFo b d l + d l
theorem urFoE {b : Nat} {d d' : Nat → Nat} : ∀ l, (∀ i, i < l → d i = d' i) → urFo b d l = urFo b d' l
  | 0, _ => rfl
  | l + 1, h => by
    show b * urFo b d l + d l = b * urFo b d' l + d' l
    rw [urFoE l (fun i hi => h i (by omega)), h l (by omega)]
theorem urBm {b x y c e : Nat} (h : b * x + c = b * y + e) (hc : c < b) (he : e < b) : x = y ∧ c = e := by
  have q : x = y := by
    by_cases k : x < y
    · have z := Nat.mul_le_mul_left b (show x + 1 ≤ y from k)
      rw [Nat.mul_add, Nat.mul_one] at z
      omega
    · by_cases k2 : y < x
      · have z := Nat.mul_le_mul_left b (show y + 1 ≤ x from k2)
        rw [Nat.mul_add, Nat.mul_one] at z
        omega
      · omega
  subst q
  exact ⟨rfl, by omega⟩
theorem urFoI {b : Nat} {d d' : Nat → Nat} : ∀ l m, (∀ i, i < l → 1 ≤ d i ∧ d i < b) → (∀ i, i < m → 1 ≤ d' i ∧ d' i < b) → urFo b d l = urFo b d' m → l = m ∧ ∀ i, i < l → d i = d' i
  | 0, 0, _, _, _ => ⟨rfl, fun i h => absurd h (Nat.not_lt_zero _)⟩
  | 0, m + 1, _, k, e => by
    have e : 0 = b * urFo b d' m + d' m := e
    have q := (k m (by omega)).1
    omega
  | l + 1, 0, h, _, e => by
    have e : b * urFo b d l + d l = 0 := e
    have q := (h l (by omega)).1
    omega
  | l + 1, m + 1, h, k, e => by
    have e : b * urFo b d l + d l = b * urFo b d' m + d' m := e
    obtain ⟨e1, e2⟩ := urBm e (h l (by omega)).2 (k m (by omega)).2
    obtain ⟨i1, i2⟩ := urFoI l m (fun i hi => h i (by omega)) (fun i hi => k i (by omega)) e1
    subst i1
    refine ⟨rfl, fun i hi => ?_⟩
    by_cases c : i = l
    · subst c; exact e2
    · exact i2 i (by omega)
theorem urFoB {b : Nat} {d : Nat → Nat} : ∀ l, (∀ i, i < l → d i < b) → urFo b d l < b ^ l
  | 0, _ => Nat.one_pos
  | l + 1, h => by
    show b * urFo b d l + d l < b ^ (l + 1)
    have ih := urFoB l (fun i hi => h i (by omega))
    have z := Nat.mul_le_mul_left b (show urFo b d l + 1 ≤ b ^ l from ih)
    rw [Nat.mul_add, Nat.mul_one] at z
    have q := h l (by omega)
    rw [Nat.pow_succ, Nat.mul_comm (b ^ l) b]
    omega
/-! names -/
def urLd (t : Nat → Int32) (p i : Nat) : Nat := uN (t (p + i)) - 96
def urNC (b : Nat) (t : Nat → Int32) (p l : Nat) : Nat := urFo b (urLd t p) l
def urLs (t : Nat → Int32) (p l : Nat) : Prop := l ≤ 8 ∧ ∀ i, i < l → urLt t (p + i)
theorem urLsD {t : Nat → Int32} {p l i : Nat} (h : urLs t p l) (hi : i < l) : 1 ≤ urLd t p i ∧ urLd t p i ≤ 26 := by
  have q := urLtD (h.2 i hi)
  unfold urLd
  omega
theorem urNCI {b : Nat} (hb : 27 ≤ b) {t t' : Nat → Int32} {p p' l l' : Nat} (h : urLs t p l) (k : urLs t' p' l') (e : urNC b t p l = urNC b t' p' l') : l = l' ∧ ∀ i, i < l → t (p + i) = t' (p' + i) := by
  obtain ⟨e1, e2⟩ := urFoI l l' (fun i hi => by have q := urLsD h hi; omega) (fun i hi => by have q := urLsD k hi; omega) e
  subst e1
  refine ⟨rfl, fun i hi => ?_⟩
  have q := e2 i hi
  have q1 := h.2 i hi
  have q2 := k.2 i hi
  unfold urLt urLx at q1 q2
  unfold urLd uN at q
  rw [fa_eq]
  omega
theorem urNCE {b : Nat} {t t' : Nat → Int32} {p p' l : Nat} (e : ∀ i, i < l → t (p + i) = t' (p' + i)) : urNC b t p l = urNC b t' p' l := urFoE l (fun i hi => by unfold urLd; rw [e i hi])
theorem urNCX {t t' : Nat → Int32} {p p' l l' : Nat} (h : urLs t p l) (k : urLs t' p' l') : urNC 32 t p l = urNC 32 t' p' l' ↔ urNC 27 t p l = urNC 27 t' p' l' := by
  constructor
  · intro e
    obtain ⟨e1, e2⟩ := urNCI (by decide) h k e
    subst e1
    exact urNCE e2
  · intro e
    obtain ⟨e1, e2⟩ := urNCI (by decide) h k e
    subst e1
    exact urNCE e2
theorem urNCB {b : Nat} (h1 : 27 ≤ b) (h2 : b ≤ 32) {t : Nat → Int32} {p l : Nat} (h : urLs t p l) : urNC b t p l < 2 ^ 63 := by
  have q := urFoB (b := b) (d := urLd t p) l (fun i hi => by have q := urLsD h hi; omega)
  have q2 : b ^ l ≤ 32 ^ l := Nat.pow_le_pow_left h2 l
  have q3 : 32 ^ l ≤ 32 ^ 8 := Nat.pow_le_pow_right (by decide) h.1
  have q4 : (32 : Nat) ^ 8 < 2 ^ 63 := by decide
  unfold urNC
  omega
theorem urlN {a b : Nat} (ha : a < 2 ^ 63) (hb : b < 2 ^ 63) : lN a = lN b ↔ a = b := by
  constructor
  · intro h
    have q := congrArg Int64.toInt h
    rw [show lN a = Int64.ofNat a from rfl, show lN b = Int64.ofNat b from rfl, lg_ofNat_toInt ha, lg_ofNat_toInt hb] at q
    omega
  · intro h; rw [h]
theorem urWl {v a : Nat} (h : 97 ≤ a) (h2 : a ≤ 122) : lN v * 32 + (nI (a - 97 + 1)).toInt64 = lN (32 * v + (a - 96)) := by
  rw [nI_l (by omega), show (32 : Int64) = lN 32 from rfl, lN_mul, lN_add, Nat.mul_comm, show a - 97 + 1 = a - 96 by omega]
theorem urWm {v a : Nat} (h : 97 ≤ a) (h2 : a ≤ 122) : 27 * lN v + (nI a).toInt64 - 97 + 1 = lN (27 * v + (a - 96)) := by
  rw [nI_l (by omega), show (27 : Int64) = lN 27 from rfl, lN_mul, lN_add, show (97 : Int64) = lN 97 from rfl, lN_sub (by omega), show (1 : Int64) = lN 1 from rfl, lN_add, show 27 * v + a - 97 + 1 = 27 * v + (a - 96) by omega]
/-- a name as it grows: no more than eight letters -/
def urNi (b : Nat) (t : Nat → Int32) (p j : Nat) (x : Int64) : Prop := x = lN (urNC b t p (min (j - p) 8))
theorem urNi0 {b : Nat} {t : Nat → Int32} {p : Nat} : urNi b t p p 0 := by
  unfold urNi
  rw [show min (p - p) 8 = 0 by omega]
  rfl
theorem urNiK {b : Nat} {t : Nat → Int32} {p j : Nat} {x : Int64} (h : urNi b t p j x) (k : ¬ j - p < 8) : urNi b t p (j + 1) x := by
  unfold urNi at h ⊢
  rw [show min (j + 1 - p) 8 = min (j - p) 8 by omega]
  exact h
theorem urNCS {b : Nat} {t : Nat → Int32} {p j a : Nat} (hp : p ≤ j) (k : j - p < 8) (e : t j = nI a) (ha : a < 2 ^ 31) : urNC b t p (min (j + 1 - p) 8) = b * urNC b t p (min (j - p) 8) + (a - 96) := by
  rw [show min (j + 1 - p) 8 = (j - p) + 1 by omega, show min (j - p) 8 = j - p by omega]
  show b * urFo b (urLd t p) (j - p) + (uN (t (p + (j - p))) - 96) = b * urFo b (urLd t p) (j - p) + (a - 96)
  rw [show p + (j - p) = j by omega, uNe ha e]
theorem urNiC {t : Nat → Int32} {p j a : Nat} {x : Int64} (h : urNi 32 t p j x) (hp : p ≤ j) (k : j - p < 8) (e : t j = nI a) (w : 97 ≤ a ∧ a ≤ 122) : urNi 32 t p (j + 1) (x * 32 + (nI (a - 97 + 1)).toInt64) := by
  unfold urNi at h ⊢
  rw [urNCS hp k e (by omega), h]
  exact urWl w.1 w.2
theorem urNiM {t : Nat → Int32} {p j a : Nat} {x : Int64} (h : urNi 27 t p j x) (hp : p ≤ j) (k : j - p < 8) (e : t j = nI a) (w : 97 ≤ a ∧ a ≤ 122) : urNi 27 t p (j + 1) (27 * x + (nI a).toInt64 - 97 + 1) := by
  unfold urNi at h ⊢
  rw [urNCS hp k e (by omega), h]
  exact urWm w.1 w.2
theorem urNiE {b : Nat} {t : Nat → Int32} {p j : Nat} {x : Int64} (h : urNi b t p j x) (k : j - p ≤ 8) : x = lN (urNC b t p (j - p)) := by
  unfold urNi at h
  rw [show min (j - p) 8 = j - p by omega] at h
  exact h
/-! reserved words -/
def urCh (j : Nat) : Int32 := (((uByt.getD j 0) &&& 255).toUInt32 % 65536).toInt32
def urKs (k : Nat) : Nat := [0, 5, 10, 18, 23, 29, 35, 38, 43, 48, 51, 56, 61, 65].getD k 0
def urKl (k : Nat) : Nat := urKs (k + 1) - urKs k - 1
def urMt (t : Nat → Int32) (p l k : Nat) : Prop := l = urKl k ∧ ∀ i, i < l → t (p + i) = urCh (urKs k + i)
def urDk (k m : Nat) : Bool := decide (k = m) || (decide (urKl k ≠ urKl m) || (List.range (urKl k)).any (fun i => decide (urCh (urKs k + i) ≠ urCh (urKs m + i))))
set_option maxRecDepth 100000 in
theorem urDk0 : ∀ k : Nat, k < 13 → ∀ m : Nat, m < 13 → urDk k m = true := by decide +kernel
theorem urMtU {t : Nat → Int32} {p l k m : Nat} (hk : k < 13) (hm : m < 13) (h : urMt t p l k) (h' : urMt t p l m) : k = m := by
  have q := urDk0 k hk m hm
  unfold urDk at q
  rw [Bool.or_eq_true, Bool.or_eq_true, decide_eq_true_eq, decide_eq_true_eq, List.any_eq_true] at q
  rcases q with q | q | ⟨i, hi, q⟩
  · exact q
  · exact absurd (h.1.symm.trans h'.1) q
  · rw [decide_eq_true_eq] at q
    have hi := List.mem_range.mp hi
    exact absurd ((h.2 i (by rw [h.1]; exact hi)).symm.trans (h'.2 i (by rw [h.1]; exact hi))) q
set_option maxRecDepth 100000 in
theorem urKw0 : ∀ k : Nat, k < 13 → (urKl k ≤ 8 ∧ ∀ i : Nat, i < urKl k → (97 ≤ (urCh (urKs k + i)).toInt ∧ (urCh (urKs k + i)).toInt ≤ 122)) := by decide +kernel
theorem urKw {k : Nat} (hk : k < 13) : urLs urCh (urKs k) (urKl k) := ⟨(urKw0 k hk).1, fun i hi => (urKw0 k hk).2 i hi⟩
noncomputable def urKf (M : Nat → Prop) : Nat → Int32
  | 0 => -1
  | k + 1 => uIte (M k) (nI k) (urKf M k)
theorem urKfN {M : Nat → Prop} : ∀ k, (∀ j, j < k → ¬ M j) → urKf M k = -1
  | 0, _ => rfl
  | k + 1, h => by
    show uIte (M k) (nI k) (urKf M k) = -1
    rw [uItN (h k (by omega))]
    exact urKfN k (fun j hj => h j (by omega))
theorem urKfY {M : Nat → Prop} {j : Nat} (hm : M j) : ∀ k, j < k → (∀ i, i < k → M i → i = j) → urKf M k = nI j
  | 0, h, _ => absurd h (Nat.not_lt_zero _)
  | k + 1, h, hu => by
    show uIte (M k) (nI k) (urKf M k) = nI j
    by_cases c : M k
    · rw [uItP c, hu k (by omega) c]
    · rw [uItN c]
      have d : ¬ k = j := fun e => c (by rw [e]; exact hm)
      exact urKfY hm k (by omega) (fun i hi => hu i (by omega))
theorem urKfR {t : Nat → Int32} {p l : Nat} {r : Int32} (h : (r = -1 ∧ ∀ k, k < 13 → ¬ urMt t p l k) ∨ ∃ k, k < 13 ∧ urMt t p l k ∧ r = nI k) : r = urKf (urMt t p l) 13 := by
  rcases h with ⟨h1, h2⟩ | ⟨k, h1, h2, h3⟩
  · rw [h1, urKfN 13 h2]
  · rw [h3, urKfY h2 13 h1 (fun i hi hm => urMtU hi h1 hm h2)]
def urKo (f : Nat → Int64) (x : Int64) (r : Int32) : Prop := (r = -1 ∧ ∀ k, k < 13 → ¬ f k = x) ∨ ∃ k, k < 13 ∧ f k = x ∧ r = nI k
def urKn (f : Nat → Int64) : Prop := ∀ k, k < 13 → f k = lN (urNC 32 urCh (urKs k) (urKl k))
theorem urMk {f : Nat → Int64} {t : Nat → Int32} {p l k : Nat} {x : Int64} (hn : urKn f) (hl : urLs t p l) (e : x = lN (urNC 32 t p l)) (hk : k < 13) : f k = x ↔ urMt t p l k := by
  rw [hn k hk, e, urlN (urNCB (by decide) (by decide) (urKw hk)) (urNCB (by decide) (by decide) hl)]
  constructor
  · intro h
    obtain ⟨h1, h2⟩ := urNCI (by decide) hl (urKw hk) h.symm
    exact ⟨h1, h2⟩
  · rintro ⟨h1, h2⟩
    subst h1
    exact (urNCE h2).symm
theorem urKoE {f : Nat → Int64} {t : Nat → Int32} {p l : Nat} {x : Int64} {r : Int32} (hn : urKn f) (hl : urLs t p l) (e : x = lN (urNC 32 t p l)) (h : urKo f x r) : r = urKf (urMt t p l) 13 := by
  refine urKfR ?_
  rcases h with ⟨h1, h2⟩ | ⟨k, h1, h2, h3⟩
  · exact Or.inl ⟨h1, fun k hk c => h2 k hk ((urMk hn hl e hk).mpr c)⟩
  · exact Or.inr ⟨k, h1, (urMk hn hl e h1).mp h2, h3⟩
theorem urKo0 {f : Nat → Int64} {x : Int64} {j : Nat} (hj : 13 ≤ j) (h : ∀ k, k < j → ¬ f k = x) : urKo f x (-1) := Or.inl ⟨rfl, fun k hk => h k (by omega)⟩
theorem urKo1 {f : Nat → Int64} {x : Int64} {j : Nat} (hj : j < 13) (h : f j = x) : urKo f x (nI j) := Or.inr ⟨j, hj, h, rfl⟩
theorem urCe {y : Int32} {a b : Int64} (e : y = (if a > b then 1 else if a = b then 0 else -1)) (c : y = 0) : a = b := by
  by_cases h : a > b
  · rw [if_pos h] at e; rw [e] at c; exact absurd c (by decide)
  · rw [if_neg h] at e
    by_cases k : a = b
    · exact k
    · rw [if_neg k] at e; rw [e] at c; exact absurd c (by decide)
theorem urCn {y : Int32} {a b : Int64} (e : y = (if a > b then 1 else if a = b then 0 else -1)) (c : ¬ y = 0) : ¬ a = b := by
  intro h
  refine c ?_
  rw [e, if_neg (by rw [h]; exact Int64.lt_irrefl), if_pos h]
def urNl (f : Nat → Int64) (x : Int64) (j : Nat) : Prop := ∀ k, k < j → ¬ f k = x
theorem urNl0 {f : Nat → Int64} {x : Int64} : urNl f x 0 := fun k h => absurd h (Nat.not_lt_zero _)
theorem urNlS {f : Nat → Int64} {x : Int64} {j : Nat} (h : urNl f x j) (c : ¬ f j = x) : urNl f x (j + 1) := by
  intro k hk
  by_cases e : k = j
  · rw [e]; exact c
  · exact h k (by omega)
/-! tokens: by their place alone -/
noncomputable def urKd (t : Nat → Int32) (n p : Nat) : Nat := uIte (n ≤ p) 0 (uIte (urLt t p) (uIte (8 < urTo (urLt t) n p - p) 5 1) (uIte (urDg t p) 2 (uIte (t p = 59) 3 (uIte (t p = 44) 4 5))))
noncomputable def urNx (t : Nat → Int32) (n p : Nat) : Nat := uIte (n ≤ p) p (uIte (urLt t p) (urTo (urLt t) n p) (uIte (urDg t p) (urTo (urDg t) n p) (p + 1)))
noncomputable def urNu (t : Nat → Int32) (n p : Nat) : Nat := urNb t p (urTo (urDg t) n p - p)
noncomputable def urKy (t : Nat → Int32) (n p : Nat) : Int32 := uIte (urKd t n p = 1) (urKf (urMt t p (urNx t n p - p)) 13) (-1)
noncomputable def urNm (b : Nat) (t : Nat → Int32) (n p : Nat) : Nat := urNC b t p (urNx t n p - p)
noncomputable def urAd (t : Nat → Int32) (n p : Nat) : Nat := urTo (urBl t) n (urNx t n p)
theorem urKd0 {t : Nat → Int32} {n p : Nat} (h : n ≤ p) : urKd t n p = 0 := uItP h
theorem urNx0 {t : Nat → Int32} {n p : Nat} (h : n ≤ p) : urNx t n p = p := uItP h
theorem urKd1 {t : Nat → Int32} {n p : Nat} (h : ¬ n ≤ p) (l : urLt t p) : urKd t n p = uIte (8 < urTo (urLt t) n p - p) 5 1 := by unfold urKd; rw [uItN h, uItP l]
theorem urNx1 {t : Nat → Int32} {n p : Nat} (h : ¬ n ≤ p) (l : urLt t p) : urNx t n p = urTo (urLt t) n p := by unfold urNx; rw [uItN h, uItP l]
theorem urKd2 {t : Nat → Int32} {n p : Nat} (h : ¬ n ≤ p) (l : ¬ urLt t p) (d : urDg t p) : urKd t n p = 2 := by unfold urKd; rw [uItN h, uItN l, uItP d]
theorem urNx2 {t : Nat → Int32} {n p : Nat} (h : ¬ n ≤ p) (l : ¬ urLt t p) (d : urDg t p) : urNx t n p = urTo (urDg t) n p := by unfold urNx; rw [uItN h, uItN l, uItP d]
theorem urKd3 {t : Nat → Int32} {n p : Nat} (h : ¬ n ≤ p) (l : ¬ urLt t p) (d : ¬ urDg t p) : urKd t n p = uIte (t p = 59) 3 (uIte (t p = 44) 4 5) := by unfold urKd; rw [uItN h, uItN l, uItN d]
theorem urNx3 {t : Nat → Int32} {n p : Nat} (h : ¬ n ≤ p) (l : ¬ urLt t p) (d : ¬ urDg t p) : urNx t n p = p + 1 := by unfold urNx; rw [uItN h, uItN l, uItN d]
theorem urKyN {t : Nat → Int32} {n p : Nat} (h : ¬ urKd t n p = 1) : urKy t n p = -1 := uItN h
theorem urKyY {t : Nat → Int32} {n p : Nat} (h : urKd t n p = 1) : urKy t n p = urKf (urMt t p (urNx t n p - p)) 13 := uItP h
theorem urM5 {P Q : Prop} : ¬ uIte P 3 (uIte Q 4 5) = 0 ∧ ¬ uIte P 3 (uIte Q 4 5) = 1 ∧ ¬ uIte P 3 (uIte Q 4 5) = 2 := by
  by_cases c : P
  · rw [uItP c]; decide
  · rw [uItN c]
    by_cases d : Q
    · rw [uItP d]; decide
    · rw [uItN d]; decide
theorem urNxL {t : Nat → Int32} {n p : Nat} (hp : p ≤ n) : urNx t n p ≤ n := by
  by_cases h : n ≤ p
  · rw [urNx0 h]; exact hp
  · by_cases l : urLt t p
    · rw [urNx1 h l]; exact urToL hp
    · by_cases d : urDg t p
      · rw [urNx2 h l d]; exact urToL hp
      · rw [urNx3 h l d]; omega
theorem urNxS {t : Nat → Int32} {n p : Nat} (k : ¬ urKd t n p = 0) : p < urNx t n p := by
  by_cases h : n ≤ p
  · exact absurd (urKd0 h) k
  · by_cases l : urLt t p
    · rw [urNx1 h l]; exact urToY (by omega) l
    · by_cases d : urDg t p
      · rw [urNx2 h l d]; exact urToY (by omega) d
      · rw [urNx3 h l d]; omega
/-- a name's letters -/
theorem urLs1 {t : Nat → Int32} {n p : Nat} (k : urKd t n p = 1) : urLs t p (urNx t n p - p) := by
  by_cases h : n ≤ p
  · rw [urKd0 h] at k; exact absurd k (by decide)
  · by_cases l : urLt t p
    · rw [urKd1 h l] at k
      have q : ¬ 8 < urTo (urLt t) n p - p := fun c => by rw [uItP c] at k; exact absurd k (by decide)
      rw [urNx1 h l]
      refine ⟨by omega, fun i hi => ?_⟩
      exact (urToR (P := urLt t) (n := n) (p := p)).2.2.1 (p + i) (by omega) (by omega)
    · by_cases d : urDg t p
      · rw [urKd2 h l d] at k; exact absurd k (by decide)
      · rw [urKd3 h l d] at k; exact absurd k urM5.2.1
def urTk (t : Nat → Int32) (n p nx kd nu : Nat) (nm : Int64) (ky : Int32) : Prop := nx = urNx t n p ∧ kd = urKd t n p ∧ (kd = 2 → nu = urNu t n p) ∧ (kd = 1 → nm = lN (urNm 32 t n p)) ∧ ky = urKy t n p
theorem urTkE {t : Nat → Int32} {n p nu : Nat} {nm : Int64} (h : n ≤ p) : urTk t n p p 0 nu nm (-1) := by
  refine ⟨(urNx0 h).symm, (urKd0 h).symm, fun k => absurd k (by decide), fun k => absurd k (by decide), ?_⟩
  rw [urKyN (by rw [urKd0 h]; decide)]
def urNk (f : Nat → Int64) (t : Nat → Int32) (p nx kd : Nat) (nm : Int64) (ky ky0 : Int32) : Prop := (8 < nx - p ∧ kd = 5 ∧ ky = ky0) ∨ (nx - p ≤ 8 ∧ kd = 1 ∧ nm = lN (urNC 32 t p (nx - p)) ∧ urKo f nm ky)
theorem urTkN {f : Nat → Int64} {t : Nat → Int32} {n p nx kd nu : Nat} {nm : Int64} {ky : Int32} (hn : urKn f) (h : ¬ n ≤ p) (l : urLt t p) (e : nx = urTo (urLt t) n p) (q : urNk f t p nx kd nm ky (-1)) : urTk t n p nx kd nu nm ky := by
  have en : nx = urNx t n p := by rw [urNx1 h l]; exact e
  have ek := urKd1 h l
  rw [← e] at ek
  rcases q with ⟨q1, q2, q3⟩ | ⟨q1, q2, q3, q4⟩
  · rw [uItP q1] at ek
    refine ⟨en, q2.trans ek.symm, fun k => by rw [q2] at k; exact absurd k (by decide), fun k => by rw [q2] at k; exact absurd k (by decide), ?_⟩
    rw [q3, urKyN (by rw [ek]; decide)]
  · rw [uItN (by omega)] at ek
    refine ⟨en, q2.trans ek.symm, fun k => by rw [q2] at k; exact absurd k (by decide), fun _ => ?_, ?_⟩
    · unfold urNm; rw [← en]; exact q3
    · rw [urKyY ek, ← en]
      have hl := urLs1 ek
      rw [← en] at hl
      exact urKoE hn hl q3 q4
theorem urTkD {t : Nat → Int32} {n p nx kd nu : Nat} {nm : Int64} (h : ¬ n ≤ p) (l : ¬ urLt t p) (d : urDg t p) (e : nx = urTo (urDg t) n p) (k : kd = 2) (v : nu = urNb t p (nx - p)) : urTk t n p nx kd nu nm (-1) := by
  have ek := urKd2 h l d
  refine ⟨by rw [urNx2 h l d]; exact e, k.trans ek.symm, fun _ => ?_, fun c => by rw [k] at c; exact absurd c (by decide), ?_⟩
  · unfold urNu; rw [← e]; exact v
  · rw [urKyN (by rw [ek]; decide)]
def urMq (x : Int32) (k : Nat) : Prop := (x = 59 ∧ k = 3) ∨ (¬ x = 59 ∧ x = 44 ∧ k = 4) ∨ (¬ x = 59 ∧ ¬ x = 44 ∧ k = 5)
theorem urMqE {x : Int32} {k : Nat} (h : urMq x k) : k = uIte (x = 59) 3 (uIte (x = 44) 4 5) := by
  rcases h with ⟨h1, h2⟩ | ⟨h1, h2, h3⟩ | ⟨h1, h2, h3⟩
  · rw [uItP h1, h2]
  · rw [uItN h1, uItP h2, h3]
  · rw [uItN h1, uItN h2, h3]
theorem urTkM {t : Nat → Int32} {n p nx kd nu : Nat} {nm : Int64} (h : ¬ n ≤ p) (l : ¬ urLt t p) (d : ¬ urDg t p) (e : nx = p + 1) (k : urMq (t p) kd) : urTk t n p nx kd nu nm (-1) := by
  have ek := urKd3 h l d
  have k2 := urMqE k
  rw [← k2] at ek
  have q := urM5 (P := t p = 59) (Q := t p = 44)
  rw [← k2] at q
  refine ⟨by rw [urNx3 h l d]; exact e, ek.symm, fun c => absurd c q.2.2, fun c => absurd c q.2.1, ?_⟩
  rw [urKyN (by rw [ek]; exact q.2.1)]
theorem urMq1 {x : Int32} {a : Nat} (e : x = nI a) (k : a = 59) : urMq x 3 := Or.inl ⟨by rw [e, k]; rfl, rfl⟩
theorem urMq2 {x : Int32} {a : Nat} (e : x = nI a) (k : a = 44) : urMq x 4 := Or.inr (Or.inl ⟨by rw [e, k]; decide, by rw [e, k]; rfl, rfl⟩)
theorem urMq3 {x : Int32} {a : Nat} (e : x = nI a) (ha : a < 2 ^ 31) (k : ¬ a = 59) (m : ¬ a = 44) : urMq x 5 := Or.inr (Or.inr ⟨by rw [e]; exact fun q => k ((nI_eq (b := 59) ha (by decide)).mp q), by rw [e]; exact fun q => m ((nI_eq (b := 44) ha (by decide)).mp q), rfl⟩)
/-! the model's token -/
def urSo (k : Nat) : Int32 := if k = 0 then 3 else if k = 1 then 0 else if k = 2 then 1 else if k = 5 then 4 else 2
def urTm (t : Nat → Int32) (n p a : Nat) (so va : Int32) (nm : Int64) : Prop := a = urNx t n p ∧ so = urSo (urKd t n p) ∧ (urKd t n p = 1 → va = urKy t n p ∧ nm = lN (urNm 27 t n p)) ∧ (urKd t n p = 2 → ∃ v : Nat, v ≤ 100000 ∧ va = nI v ∧ min v 1000 = urNu t n p) ∧ (urKd t n p = 3 → va = 59) ∧ (urKd t n p = 4 → va = 44)
theorem urTmE {t : Nat → Int32} {n p : Nat} {va : Int32} {nm : Int64} (h : n ≤ p) : urTm t n p p 3 va nm := by
  have k := urKd0 (t := t) h
  refine ⟨(urNx0 h).symm, by rw [k]; rfl, fun c => ?_, fun c => ?_, fun c => ?_, fun c => ?_⟩ <;> rw [k] at c <;> exact absurd c (by decide)
theorem urTmN {t : Nat → Int32} {n p a : Nat} {so va : Int32} {nm : Int64} (h : ¬ n ≤ p) (l : urLt t p) (e : a = urTo (urLt t) n p) (q : (8 < a - p ∧ so = 4) ∨ (a - p ≤ 8 ∧ so = 0 ∧ nm = lN (urNC 27 t p (a - p)) ∧ va = urKf (urMt t p (a - p)) 13)) : urTm t n p a so va nm := by
  have en : a = urNx t n p := by rw [urNx1 h l]; exact e
  have ek := urKd1 h l
  rw [← e] at ek
  rcases q with ⟨q1, q2⟩ | ⟨q1, q2, q3, q4⟩
  · rw [uItP q1] at ek
    refine ⟨en, by rw [ek, q2]; rfl, fun c => ?_, fun c => ?_, fun c => ?_, fun c => ?_⟩ <;> rw [ek] at c <;> exact absurd c (by decide)
  · rw [uItN (by omega)] at ek
    refine ⟨en, by rw [ek, q2]; rfl, fun _ => ⟨?_, ?_⟩, fun c => ?_, fun c => ?_, fun c => ?_⟩
    · rw [urKyY ek, ← en]; exact q4
    · unfold urNm; rw [← en]; exact q3
    · rw [ek] at c; exact absurd c (by decide)
    · rw [ek] at c; exact absurd c (by decide)
    · rw [ek] at c; exact absurd c (by decide)
theorem urTmD {t : Nat → Int32} {n p a v : Nat} {nm : Int64} (h : ¬ n ≤ p) (l : ¬ urLt t p) (d : urDg t p) (e : a = urTo (urDg t) n p) (hv : v ≤ 100000) (q : v = urVb t p (a - p)) : urTm t n p a 1 (nI v) nm := by
  have ek := urKd2 h l d
  refine ⟨by rw [urNx2 h l d]; exact e, by rw [ek]; rfl, fun c => ?_, fun _ => ⟨v, hv, rfl, ?_⟩, fun c => ?_, fun c => ?_⟩
  · rw [ek] at c; exact absurd c (by decide)
  · rw [q, urVN]; unfold urNu; rw [← e]
  · rw [ek] at c; exact absurd c (by decide)
  · rw [ek] at c; exact absurd c (by decide)
theorem urTmM {t : Nat → Int32} {n p a : Nat} {so va : Int32} {nm : Int64} (h : ¬ n ≤ p) (l : ¬ urLt t p) (d : ¬ urDg t p) (e : a = p + 1) (v : va = t p) (q : ((va = 59 ∨ va = 44) ∧ so = 2) ∨ (¬ va = 59 ∧ ¬ va = 44 ∧ so = 4)) : urTm t n p a so va nm := by
  have ek := urKd3 h l d
  rw [← v] at ek
  have z := urM5 (P := va = 59) (Q := va = 44)
  rw [← ek] at z
  refine ⟨by rw [urNx3 h l d]; exact e, ?_, fun c => absurd c z.2.1, fun c => absurd c z.2.2, fun c => ?_, fun c => ?_⟩
  · rcases q with ⟨q1, q2⟩ | ⟨q1, q2, q3⟩
    · by_cases c : va = 59
      · rw [ek, uItP c, q2]; rfl
      · rw [ek, uItN c, uItP (q1.resolve_left c), q2]; rfl
    · rw [ek, uItN q1, uItN q2, q3]; rfl
  · by_cases k : va = 59
    · exact k
    · rw [ek, uItN k] at c
      by_cases k2 : va = 44
      · rw [uItP k2] at c; exact absurd c (by decide)
      · rw [uItN k2] at c; exact absurd c (by decide)
  · by_cases k : va = 59
    · rw [ek, uItP k] at c; exact absurd c (by decide)
    · rw [ek, uItN k] at c
      by_cases k2 : va = 44
      · exact k2
      · rw [uItN k2] at c; exact absurd c (by decide)
theorem urKd5 {t : Nat → Int32} {n p : Nat} : urKd t n p ≤ 5 := by
  by_cases h : n ≤ p
  · rw [urKd0 h]; decide
  · by_cases l : urLt t p
    · rw [urKd1 h l]
      by_cases c : 8 < urTo (urLt t) n p - p
      · rw [uItP c]; decide
      · rw [uItN c]; decide
    · by_cases d : urDg t p
      · rw [urKd2 h l d]; decide
      · rw [urKd3 h l d]
        by_cases c : t p = 59
        · rw [uItP c]; decide
        · rw [uItN c]
          by_cases c2 : t p = 44
          · rw [uItP c2]; decide
          · rw [uItN c2]; decide
theorem urSoE {k : Nat} (h : k ≤ 5) : (urSo k = 0 ↔ k = 1) ∧ (urSo k = 1 ↔ k = 2) ∧ (urSo k = 2 ↔ (k = 3 ∨ k = 4)) ∧ (urSo k = 3 ↔ k = 0) := by
  have q : k = 0 ∨ k = 1 ∨ k = 2 ∨ k = 3 ∨ k = 4 ∨ k = 5 := by omega
  rcases q with rfl | rfl | rfl | rfl | rfl | rfl <;> decide
theorem urAdE {t : Nat → Int32} {n p nx kd nu : Nat} {nm : Int64} {ky : Int32} {y : Nat} (i : urTk t n p nx kd nu nm ky) (h : y = urTo (urBl t) n nx) : y = urAd t n p := by
  rw [h, i.1]; rfl
theorem urTmL {t : Nat → Int32} {n p a : Nat} {so va : Int32} {nm : Int64} (h : urTm t n p a so va nm) (k : ¬ so = 3) : a ≤ n := by
  have e := h.1
  have s := h.2.1
  by_cases c : n ≤ p
  · rw [urKd0 c] at s
    exact absurd (s.trans ((urSoE (k := 0) (by decide)).2.2.2.mpr rfl)) k
  · rw [e]; exact urNxL (by omega)
/-! what reading comes to: (fault, its place, 0) or (0, 0, the place behind) -/
def urOk (p : Nat) : Int32 × Int32 × Nat := (0, 0, p)
def urBd (f : Int32) (p : Nat) : Int32 × Int32 × Nat := (f, nI p, 0)
def urTh (r : Int32 × Int32 × Nat) (k : Nat → Int32 × Int32 × Nat) : Int32 × Int32 × Nat := if r.1 = 0 then k r.2.2 else r
def urIs (r : Int32 × Int32 × Nat) (f g : Int32) : Prop := r = (f, g, 0) ∧ ¬ f = 0
theorem urThO {p : Nat} {k : Nat → Int32 × Int32 × Nat} : urTh (urOk p) k = k p := if_pos rfl
theorem urThE {r : Int32 × Int32 × Nat} {p : Nat} {k : Nat → Int32 × Int32 × Nat} (h : r = urOk p) : urTh r k = k p := by rw [h]; exact urThO
theorem urThI {r : Int32 × Int32 × Nat} {f g : Int32} {k : Nat → Int32 × Int32 × Nat} (h : urIs r f g) : urIs (urTh r k) f g := by
  obtain ⟨h1, h2⟩ := h
  refine ⟨?_, h2⟩
  rw [h1]
  exact if_neg h2
theorem urThK {r : Int32 × Int32 × Nat} {p : Nat} {f g : Int32} {k : Nat → Int32 × Int32 × Nat} (h : r = urOk p) (q : urIs (k p) f g) : urIs (urTh r k) f g := by rw [urThE h]; exact q
theorem urThP {r : Int32 × Int32 × Nat} {p q : Nat} {k : Nat → Int32 × Int32 × Nat} (h : r = urOk p) (e : k p = urOk q) : urTh r k = urOk q := by rw [urThE h]; exact e
theorem urIsB {f : Int32} {p : Nat} (h : ¬ f = 0) : urIs (urBd f p) f (nI p) := ⟨rfl, h⟩
theorem urIsE {r s : Int32 × Int32 × Nat} {f g : Int32} (e : s = r) (h : urIs r f g) : urIs s f g := by rw [e]; exact h
theorem urTh0 {r : Int32 × Int32 × Nat} {k : Nat → Int32 × Int32 × Nat} (h : (urTh r k).1 = 0) : r.1 = 0 ∧ urTh r k = k r.2.2 := by
  by_cases c : r.1 = 0
  · exact ⟨c, if_pos c⟩
  · have e : urTh r k = r := if_neg c
    rw [e] at h
    exact absurd h c
theorem urOkI {p q : Nat} (h : urOk p = urOk q) : p = q := congrArg (fun r => r.2.2) h
theorem urIsN {r : Int32 × Int32 × Nat} {f g : Int32} {p : Nat} (h : urIs r f g) : ¬ r = urOk p := by
  intro e
  exact h.2 (congrArg (fun r => r.1) (h.1.symm.trans e))
/-! pieces of the text -/
noncomputable def urNum (t : Nat → Int32) (n lo hi p : Nat) : Int32 × Int32 × Nat := uIte (urKd t n p = 2) (uIte (lo ≤ urNu t n p ∧ urNu t n p ≤ hi) (urOk (urAd t n p)) (urBd 2 p)) (urBd 1 p)
noncomputable def urNam (t : Nat → Int32) (n p : Nat) : Int32 × Int32 × Nat := uIte (urKd t n p = 1 ∧ urKy t n p = -1) (urOk (urAd t n p)) (urBd 1 p)
noncomputable def urMar (t : Nat → Int32) (n k p : Nat) : Int32 × Int32 × Nat := uIte (urKd t n p = k) (urOk (urAd t n p)) (urBd 1 p)
noncomputable def urKey (t : Nat → Int32) (n : Nat) (k : Int32) (p : Nat) : Int32 × Int32 × Nat := uIte (urKy t n p = k) (urOk (urAd t n p)) (urBd 1 p)
noncomputable def urRo (t : Nat → Int32) (n : Nat) : Nat → Nat → Int32 × Int32 × Nat
  | 0, q => urBd 2 q
  | j + 1, q => urTh (urNum t n 1 9 q) (fun a => uIte (urKd t n a = 2) (urRo t n j a) (urOk a))
noncomputable def urWd (t : Nat → Int32) (n : Nat) (told dup : Prop) (p : Nat) : Int32 × Int32 × Nat := urTh (urNam t n (urAd t n p)) (fun q => uIte told (urBd 3 (urAd t n p)) (urTh (urRo t n 5 q) (fun e => uIte dup (urBd 3 q) (urOk e))))
noncomputable def urLk (t : Nat → Int32) (n p : Nat) : Int32 × Int32 × Nat := urTh (urNum t n 1 9 (urAd t n p)) (urNum t n 1 9)
noncomputable def urSnd (t : Nat → Int32) (n p : Nat) : Int32 × Int32 × Nat := urTh (urNam t n p) (fun b => uIte (urKy t n b = 9) (urNum t n 0 11 (urAd t n b)) (urOk b))
def urIa (k : Int32) : Prop := k = 7 ∨ k = 8 ∨ k = 10 ∨ k = 11
noncomputable def urAb (t : Nat → Int32) (n p : Nat) : Int32 × Int32 × Nat := uIte (urKy t n p = 10) (urNum t n 1 99 (urAd t n p)) (uIte (urKy t n p = 8) (urSnd t n (urAd t n p)) (urOk (urAd t n p)))
noncomputable def urAs (t : Nat → Int32) (n : Nat) : Nat → Nat → Int32 × Int32 × Nat
  | 0, p => uIte (urIa (urKy t n p)) (urBd 2 p) (urBd 1 p)
  | j + 1, p => uIte (urIa (urKy t n p)) (urTh (urAb t n p) (fun e => uIte (urKd t n e = 4) (urAs t n j (urAd t n e)) (urOk e))) (urBd 1 p)
noncomputable def urOp (t : Nat → Int32) (n p : Nat) : Int32 × Int32 × Nat := uIte (urKy t n p = 12) (urOk (urAd t n p)) (urNum t n 0 11 p)
noncomputable def urTw (t : Nat → Int32) (n b : Nat) : Nat := uIte (urKy t n b = 5) (urAd t n b) b
noncomputable def urOh (t : Nat → Int32) (n p : Nat) : Int32 × Int32 × Nat := urTh (urTh (urOp t n (urAd t n p)) (urNam t n)) (fun b => urKey t n 6 (urTw t n b))
noncomputable def urOr (t : Nat → Int32) (n p : Nat) : Int32 × Int32 × Nat := urTh (urOh t n p) (urAs t n 4)
noncomputable def urBo (t : Nat → Int32) (n : Nat) (told dup : Prop) (W L O : Nat) (mt lt : Prop) (p : Nat) : Int32 × Int32 × Nat :=
  uIte (urKy t n p = 0) (uIte (W < 10) (urWd t n told dup p) (urBd 2 p))
  (uIte (urKy t n p = 1) (uIte (L < 8) (urLk t n p) (urBd 2 p))
  (uIte (urKy t n p = 2) (uIte mt (urBd 3 p) (urNum t n 1 9 (urAd t n p)))
  (uIte (urKy t n p = 3) (uIte lt (urBd 3 p) (urNum t n 0 30 (urAd t n p)))
  (uIte (urKy t n p = 4) (uIte (O < 16) (urOr t n p) (urBd 2 p)) (urBd 1 p)))))
noncomputable def urLi (t : Nat → Int32) (n : Nat) (told dup : Prop) (W L O : Nat) (mt lt : Prop) (p : Nat) : Int32 × Int32 × Nat := urTh (urBo t n told dup W L O mt lt p) (urMar t n 3)
theorem urNum1 {t : Nat → Int32} {n lo hi p : Nat} (h : ¬ urKd t n p = 2) : urNum t n lo hi p = urBd 1 p := uItN h
theorem urNum2 {t : Nat → Int32} {n lo hi p : Nat} (h : urKd t n p = 2) (k : ¬ (lo ≤ urNu t n p ∧ urNu t n p ≤ hi)) : urNum t n lo hi p = urBd 2 p := by unfold urNum; rw [uItP h, uItN k]
theorem urNum3 {t : Nat → Int32} {n lo hi p : Nat} (h : urKd t n p = 2) (k : lo ≤ urNu t n p ∧ urNu t n p ≤ hi) : urNum t n lo hi p = urOk (urAd t n p) := by unfold urNum; rw [uItP h, uItP k]
theorem urNam1 {t : Nat → Int32} {n p : Nat} (h : ¬ (urKd t n p = 1 ∧ urKy t n p = -1)) : urNam t n p = urBd 1 p := uItN h
theorem urNam2 {t : Nat → Int32} {n p : Nat} (h : urKd t n p = 1 ∧ urKy t n p = -1) : urNam t n p = urOk (urAd t n p) := uItP h
theorem urMar1 {t : Nat → Int32} {n k p : Nat} (h : ¬ urKd t n p = k) : urMar t n k p = urBd 1 p := uItN h
theorem urMar2 {t : Nat → Int32} {n k p : Nat} (h : urKd t n p = k) : urMar t n k p = urOk (urAd t n p) := uItP h
theorem urKey1 {t : Nat → Int32} {n p : Nat} {k : Int32} (h : ¬ urKy t n p = k) : urKey t n k p = urBd 1 p := uItN h
theorem urKey2 {t : Nat → Int32} {n p : Nat} {k : Int32} (h : urKy t n p = k) : urKey t n k p = urOk (urAd t n p) := uItP h
theorem urNumO {t : Nat → Int32} {n lo hi p q : Nat} (h : urNum t n lo hi p = urOk q) : urKd t n p = 2 ∧ (lo ≤ urNu t n p ∧ urNu t n p ≤ hi) ∧ q = urAd t n p := by
  by_cases c : urKd t n p = 2
  · by_cases d : lo ≤ urNu t n p ∧ urNu t n p ≤ hi
    · rw [urNum3 c d] at h; exact ⟨c, d, (urOkI h).symm⟩
    · rw [urNum2 c d] at h; exact absurd (show (2 : Int32) = 0 from congrArg (fun r => r.1) h) (by decide)
  · rw [urNum1 c] at h; exact absurd (show (1 : Int32) = 0 from congrArg (fun r => r.1) h) (by decide)
theorem urNamO {t : Nat → Int32} {n p q : Nat} (h : urNam t n p = urOk q) : (urKd t n p = 1 ∧ urKy t n p = -1) ∧ q = urAd t n p := by
  by_cases c : urKd t n p = 1 ∧ urKy t n p = -1
  · rw [urNam2 c] at h; exact ⟨c, (urOkI h).symm⟩
  · rw [urNam1 c] at h; exact absurd (show (1 : Int32) = 0 from congrArg (fun r => r.1) h) (by decide)
theorem urNumZ {t : Nat → Int32} {n lo hi p : Nat} (h : (urNum t n lo hi p).1 = 0) : urKd t n p = 2 ∧ (lo ≤ urNu t n p ∧ urNu t n p ≤ hi) := by
  by_cases c : urKd t n p = 2
  · by_cases d : lo ≤ urNu t n p ∧ urNu t n p ≤ hi
    · exact ⟨c, d⟩
    · rw [urNum2 c d] at h; exact absurd h (show ¬ ((2 : Int32) = 0) by decide)
  · rw [urNum1 c] at h; exact absurd h (show ¬ ((1 : Int32) = 0) by decide)
theorem urNamZ {t : Nat → Int32} {n p : Nat} (h : (urNam t n p).1 = 0) : urKd t n p = 1 ∧ urKy t n p = -1 := by
  by_cases c : urKd t n p = 1 ∧ urKy t n p = -1
  · exact c
  · rw [urNam1 c] at h; exact absurd h (show ¬ ((1 : Int32) = 0) by decide)
/-! rows of S -/
noncomputable def urSi (t : Nat → Int32) (n q : Nat) : Nat → Nat
  | 0 => q
  | k + 1 => urAd t n (urSi t n q k)
noncomputable def urSg (t : Nat → Int32) (n q k : Nat) : Nat := urNu t n (urSi t n q k)
noncomputable def urRl (t : Nat → Int32) (n : Nat) : Nat → Nat → Nat
  | 0, q => 0
  | j + 1, q => 1 + uIte (urKd t n (urAd t n q) = 2) (urRl t n j (urAd t n q)) 0
noncomputable def urRc (t : Nat → Int32) (n q : Nat) : Nat := urFo 10 (urSg t n q) (urRl t n 5 q)
/-- the row so far: k signs read, the place is behind them -/
def urRi (t : Nat → Int32) (n q k p : Nat) : Prop := p = urSi t n q k ∧ k ≤ 5 ∧ urRo t n 5 q = urRo t n (5 - k) p ∧ urRl t n 5 q = k + urRl t n (5 - k) p ∧ (0 < k → urKd t n p = 2) ∧ ∀ i, i < k → 1 ≤ urSg t n q i ∧ urSg t n q i ≤ 9
theorem urRi0 {t : Nat → Int32} {n q : Nat} : urRi t n q 0 q := ⟨rfl, by decide, rfl, (Nat.zero_add _).symm, fun h => absurd h (Nat.lt_irrefl _), fun i h => absurd h (Nat.not_lt_zero _)⟩
theorem urRiF {t : Nat → Int32} {n q k p : Nat} {f g : Int32} (h : urRi t n q k p) (b : urIs (urNum t n 1 9 p) f g) : urIs (urRo t n 5 q) f g := by
  obtain ⟨h1, h2, h3, h4, h5, h6⟩ := h
  rw [h3]
  by_cases c : k = 5
  · subst c
    have kd := h5 (by decide)
    show urIs (urBd 2 p) f g
    by_cases d : 1 ≤ urNu t n p ∧ urNu t n p ≤ 9
    · rw [urNum3 kd d] at b; exact absurd rfl (urIsN b)
    · rw [urNum2 kd d] at b; exact b
  · obtain ⟨j, e⟩ : ∃ j, 5 - k = j + 1 := ⟨4 - k, by omega⟩
    rw [e]
    exact urThI b
theorem urRi5 {t : Nat → Int32} {n q p : Nat} (h : urRi t n q 5 p) : urIs (urRo t n 5 q) 2 (nI p) := by
  rw [h.2.2.1]
  exact urIsB (by decide)
theorem urRiS {t : Nat → Int32} {n q k p a : Nat} (h : urRi t n q k p) (hk : ¬ k = 5) (b : urNum t n 1 9 p = urOk a) (c : urKd t n a = 2) : urRi t n q (k + 1) a := by
  obtain ⟨h1, h2, h3, h4, h5, h6⟩ := h
  obtain ⟨b1, b2, b3⟩ := urNumO b
  obtain ⟨j, e⟩ : ∃ j, 5 - k = j + 1 := ⟨4 - k, by omega⟩
  have e2 : 5 - (k + 1) = j := by omega
  refine ⟨?_, by omega, ?_, ?_, fun _ => c, fun i hi => ?_⟩
  · show a = urAd t n (urSi t n q k); rw [← h1]; exact b3
  · rw [h3, e, e2]
    show urTh (urNum t n 1 9 p) (fun a => uIte (urKd t n a = 2) (urRo t n j a) (urOk a)) = _
    rw [urThE b, uItP c]
  · rw [h4, e, e2]
    show k + (1 + uIte (urKd t n (urAd t n p) = 2) (urRl t n j (urAd t n p)) 0) = _
    rw [← b3, uItP c]
    omega
  · by_cases d : i = k
    · subst d; unfold urSg; rw [← h1]; exact b2
    · exact h6 i (by omega)
theorem urRiE {t : Nat → Int32} {n q k p a : Nat} (h : urRi t n q k p) (hk : ¬ k = 5) (b : urNum t n 1 9 p = urOk a) (c : ¬ urKd t n a = 2) : urRo t n 5 q = urOk a ∧ urRl t n 5 q = k + 1 ∧ ∀ i, i < k + 1 → 1 ≤ urSg t n q i ∧ urSg t n q i ≤ 9 := by
  obtain ⟨h1, h2, h3, h4, h5, h6⟩ := h
  obtain ⟨b1, b2, b3⟩ := urNumO b
  obtain ⟨j, e⟩ : ∃ j, 5 - k = j + 1 := ⟨4 - k, by omega⟩
  refine ⟨?_, ?_, fun i hi => ?_⟩
  · rw [h3, e]
    show urTh (urNum t n 1 9 p) (fun a => uIte (urKd t n a = 2) (urRo t n j a) (urOk a)) = _
    rw [urThE b, uItN c]
  · rw [h4, e]
    show k + (1 + uIte (urKd t n (urAd t n p) = 2) (urRl t n j (urAd t n p)) 0) = _
    rw [← b3, uItN c]
  · by_cases d : i = k
    · subst d; unfold urSg; rw [← h1]; exact b2
    · exact h6 i (by omega)
/-- a row that was read well -/
theorem urRoZ {t : Nat → Int32} {n : Nat} : ∀ j q, (urRo t n j q).1 = 0 → (∀ i, i < urRl t n j q → 1 ≤ urSg t n q i ∧ urSg t n q i ≤ 9) ∧ urRl t n j q ≤ j
  | 0, q, h => absurd h (show ¬ ((2 : Int32) = 0) by decide)
  | j + 1, q, h => by
    obtain ⟨h1, h2⟩ := urTh0 (show (urTh (urNum t n 1 9 q) (fun a => uIte (urKd t n a = 2) (urRo t n j a) (urOk a))).1 = 0 from h)
    obtain ⟨b1, b2⟩ := urNumZ h1
    have b3 : (urNum t n 1 9 q).2.2 = urAd t n q := by rw [urNum3 b1 b2]; rfl
    have h : (urTh (urNum t n 1 9 q) (fun a => uIte (urKd t n a = 2) (urRo t n j a) (urOk a))).1 = 0 := h
    rw [h2, b3] at h
    have z : ∀ i, urSg t n (urAd t n q) i = urSg t n q (i + 1) := by
      have y : ∀ i, urSi t n (urAd t n q) i = urSi t n q (i + 1) := by
        intro i
        induction i with
        | zero => rfl
        | succ i ih => show urAd t n (urSi t n (urAd t n q) i) = urAd t n (urSi t n q (i + 1)); rw [ih]
      intro i
      unfold urSg
      rw [y i]
    show (∀ i, i < 1 + uIte (urKd t n (urAd t n q) = 2) (urRl t n j (urAd t n q)) 0 → 1 ≤ urSg t n q i ∧ urSg t n q i ≤ 9) ∧ 1 + uIte (urKd t n (urAd t n q) = 2) (urRl t n j (urAd t n q)) 0 ≤ j + 1
    by_cases c : urKd t n (urAd t n q) = 2
    · rw [uItP c] at h ⊢
      obtain ⟨ih, il⟩ := urRoZ j (urAd t n q) h
      refine ⟨fun i hi => ?_, by omega⟩
      cases i with
      | zero => exact b2
      | succ i => rw [← z i]; exact ih i (by omega)
    · rw [uItN c]
      refine ⟨fun i hi => ?_, by omega⟩
      have e : i = 0 := by omega
      subst e
      exact b2
theorem urRcI {t t' : Nat → Int32} {n q q' : Nat} (h : (urRo t n 5 q).1 = 0) (k : (urRo t n 5 q').1 = 0) : urRc t n q = urRc t n q' ↔ (urRl t n 5 q = urRl t n 5 q' ∧ ∀ i, i < urRl t n 5 q → urSg t n q i = urSg t n q' i) := by
  constructor
  · intro e
    exact urFoI _ _ (fun i hi => by have z := (urRoZ 5 q h).1 i hi; omega) (fun i hi => by have z := (urRoZ 5 q' k).1 i hi; omega) e
  · rintro ⟨e1, e2⟩
    unfold urRc
    rw [← e1]
    exact urFoE _ e2
theorem urRcB {t : Nat → Int32} {n q : Nat} (h : (urRo t n 5 q).1 = 0) : urRc t n q < 100000 := by
  obtain ⟨z1, z2⟩ := urRoZ 5 q h
  have a := urFoB (b := 10) (d := urSg t n q) (urRl t n 5 q) (fun i hi => by have z := z1 i hi; omega)
  have c : 10 ^ urRl t n 5 q ≤ 10 ^ 5 := Nat.pow_le_pow_right (by decide) z2
  have d : (10 : Nat) ^ 5 = 100000 := by decide
  unfold urRc
  omega
/-! the reader's class: pieces by the token -/
theorem urNamF {t : Nat → Int32} {n p nx kd nu : Nat} {nm : Int64} {ky : Int32} (h : urTk t n p nx kd nu nm ky) (c : ¬ kd = 1 ∨ ¬ ky = -1) : urIs (urNam t n p) 1 (nI p) := by
  obtain ⟨h1, h2, h3, h4, h5⟩ := h
  rw [urNam1 (by rw [← h2, ← h5]; rintro ⟨q1, q2⟩; exact c.elim (fun z => z q1) (fun z => z q2))]
  exact urIsB (by decide)
theorem urNamT {t : Nat → Int32} {n p nx kd nu : Nat} {nm : Int64} {ky : Int32} (h : urTk t n p nx kd nu nm ky) (c : kd = 1) (d : ky = -1) : urKd t n p = 1 ∧ urKy t n p = -1 := by
  obtain ⟨h1, h2, h3, h4, h5⟩ := h
  exact ⟨by rw [← h2]; exact c, by rw [← h5]; exact d⟩
theorem urNamP {t : Nat → Int32} {n p q : Nat} (h : urKd t n p = 1 ∧ urKy t n p = -1) (e : q = urAd t n p) : urNam t n p = urOk q := by rw [urNam2 h, e]
theorem urTkNm {t : Nat → Int32} {n p nx kd nu : Nat} {nm : Int64} {ky : Int32} (h : urTk t n p nx kd nu nm ky) (k : urKd t n p = 1) : nm = lN (urNm 32 t n p) := h.2.2.2.1 (h.2.1.trans k)
theorem urTkNu {t : Nat → Int32} {n p nx kd nu : Nat} {nm : Int64} {ky : Int32} (h : urTk t n p nx kd nu nm ky) (k : urKd t n p = 2) : nu = urNu t n p := h.2.2.1 (h.2.1.trans k)
theorem urTkKy {t : Nat → Int32} {n p nx kd nu : Nat} {nm : Int64} {ky : Int32} (h : urTk t n p nx kd nu nm ky) : ky = urKy t n p := h.2.2.2.2
theorem urTkKd {t : Nat → Int32} {n p nx kd nu : Nat} {nm : Int64} {ky : Int32} (h : urTk t n p nx kd nu nm ky) : kd = urKd t n p := h.2.1
theorem urNumF1 {t : Nat → Int32} {n p nx kd nu lo hi : Nat} {nm : Int64} {ky : Int32} (h : urTk t n p nx kd nu nm ky) (c : ¬ kd = 2) : urIs (urNum t n lo hi p) 1 (nI p) := by
  rw [urNum1 (by rw [← urTkKd h]; exact c)]
  exact urIsB (by decide)
theorem urNumF2 {t : Nat → Int32} {n p nx kd nu lo hi : Nat} {nm : Int64} {ky : Int32} (h : urTk t n p nx kd nu nm ky) (c : kd = 2) (d : nu < lo ∨ hi < nu) : urIs (urNum t n lo hi p) 2 (nI p) := by
  have k : urKd t n p = 2 := (urTkKd h).symm.trans c
  have e := urTkNu h k
  rw [urNum2 k (by rw [← e]; omega)]
  exact urIsB (by decide)
theorem urNumT {t : Nat → Int32} {n p nx kd nu lo hi : Nat} {nm : Int64} {ky : Int32} (h : urTk t n p nx kd nu nm ky) (c : kd = 2) (d : lo ≤ nu) (d2 : nu ≤ hi) : urKd t n p = 2 ∧ (lo ≤ urNu t n p ∧ urNu t n p ≤ hi) ∧ nu = urNu t n p := by
  have k : urKd t n p = 2 := (urTkKd h).symm.trans c
  have e := urTkNu h k
  exact ⟨k, by rw [← e]; exact ⟨d, d2⟩, e⟩
theorem urNumP {t : Nat → Int32} {n p q lo hi nu : Nat} (h : urKd t n p = 2 ∧ (lo ≤ urNu t n p ∧ urNu t n p ≤ hi) ∧ nu = urNu t n p) (e : q = urAd t n p) : urNum t n lo hi p = urOk q := by rw [urNum3 h.1 h.2.1, e]
theorem urMarF {t : Nat → Int32} {n p nx kd nu k : Nat} {nm : Int64} {ky : Int32} (h : urTk t n p nx kd nu nm ky) (c : ¬ kd = k) : urIs (urMar t n k p) 1 (nI p) := by
  rw [urMar1 (by rw [← urTkKd h]; exact c)]
  exact urIsB (by decide)
theorem urMarT {t : Nat → Int32} {n p q nx kd nu k : Nat} {nm : Int64} {ky : Int32} (h : urTk t n p nx kd nu nm ky) (c : kd = k) (e : q = urAd t n p) : urMar t n k p = urOk q := by rw [urMar2 ((urTkKd h).symm.trans c), e]
theorem urKeyF {t : Nat → Int32} {n p nx kd nu : Nat} {nm : Int64} {ky k : Int32} (h : urTk t n p nx kd nu nm ky) (c : ¬ ky = k) : urIs (urKey t n k p) 1 (nI p) := by
  rw [urKey1 (by rw [← urTkKy h]; exact c)]
  exact urIsB (by decide)
theorem urKeyT {t : Nat → Int32} {n p q nx kd nu : Nat} {nm : Int64} {ky k : Int32} (h : urTk t n p nx kd nu nm ky) (c : ky = k) (e : q = urAd t n p) : urKey t n k p = urOk q := by rw [urKey2 ((urTkKy h).symm.trans c), e]
/-- no fault yet -/
def urFs (f g : Int32) : Prop := f = 0 ∧ g = -1
/-- one place of a row is set -/
def urSet {α : Type} (f' f : Nat → α) (k : Nat) (v : α) : Prop := f' k = v ∧ ∀ j, ¬ j = k → f' j = f j
theorem urSetU {f : Nat → Int32} {k : Nat} {v w : Int32} (e : v = w) : urSet (upd f k v) f k w := ⟨by rw [pk_us]; exact e, fun j h => pk_un h⟩
theorem urSetUU {f : Nat → Int32} {k : Nat} {u v w : Int32} (e : v = w) : urSet (upd (upd f k u) k v) f k w := ⟨by rw [pk_us]; exact e, fun j h => by rw [pk_un h, pk_un h]⟩
theorem urSetL {f : Nat → Int64} {k : Nat} {v w : Int64} (e : v = w) : urSet (vp_updL f k v) f k w := ⟨by rw [pk_uLs]; exact e, fun j h => pk_uLn h⟩
/-- what an act's slot holds -/
noncomputable def urTp (t : Nat → Int32) (n b : Nat) : Int32 := uIte (urKy t n (urAd t n b) = 9) (nI (urNu t n (urAd t n (urAd t n b)))) (-1)
def urSl (t : Nat → Int32) (n a : Nat) (ac : Int32) (nm : Int64) (pl po nu : Int32) : Prop := ac = urKy t n a ∧ (urKy t n a = 8 → nm = lN (urNm 32 t n (urAd t n a)) ∧ pl = nI (urAd t n a) ∧ po = urTp t n (urAd t n a) ∧ urKd t n (urAd t n a) = 1) ∧ (urKy t n a = 10 → nu = nI (urNu t n (urAd t n a)))
/-- five rows stay but for one place -/
def urFr (k : Nat) (a a' : Nat → Int32) (b b' : Nat → Int64) (c c' d d' e e' : Nat → Int32) : Prop := ∀ j, ¬ j = k → a' j = a j ∧ b' j = b j ∧ c' j = c j ∧ d' j = d j ∧ e' j = e j
noncomputable def urAa (t : Nat → Int32) (n c p : Nat) : Int32 × Int32 × Nat := uIte (urIa (urKy t n p)) (uIte (c < 4) (urAb t n p) (urBd 2 p)) (urBd 1 p)
theorem urAa1 {t : Nat → Int32} {n c p nx kd nu : Nat} {nm : Int64} {ky : Int32} (h : urTk t n p nx kd nu nm ky) (k : ¬ urIa ky) : urIs (urAa t n c p) 1 (nI p) := by
  unfold urAa
  rw [← urTkKy h, uItN k]
  exact urIsB (by decide)
theorem urAa2 {t : Nat → Int32} {n c p nx kd nu : Nat} {nm : Int64} {ky : Int32} (h : urTk t n p nx kd nu nm ky) (k : urIa ky) (d : ¬ c < 4) : urIs (urAa t n c p) 2 (nI p) := by
  unfold urAa
  rw [← urTkKy h, uItP k, uItN d]
  exact urIsB (by decide)
theorem urAa3 {t : Nat → Int32} {n c p nx kd nu : Nat} {nm : Int64} {ky : Int32} (h : urTk t n p nx kd nu nm ky) (k : urIa ky) (d : c < 4) : urAa t n c p = urAb t n p := by
  unfold urAa
  rw [← urTkKy h, uItP k, uItP d]
theorem urIaN {k : Int32} (a : ¬ k = 7) (b : ¬ k = 8) (c : ¬ k = 10) (d : ¬ k = 11) : ¬ urIa k := by intro q; rcases q with h | h | h | h <;> first | exact a h | exact b h | exact c h | exact d h
theorem urIa7 {k : Int32} (a : k = 7) : urIa k := Or.inl a
theorem urIa8 {k : Int32} (a : k = 8) : urIa k := Or.inr (Or.inl a)
theorem urIa10 {k : Int32} (a : k = 10) : urIa k := Or.inr (Or.inr (Or.inl a))
theorem urIa11 {k : Int32} (a : k = 11) : urIa k := Or.inr (Or.inr (Or.inr a))
theorem urAbW {t : Nat → Int32} {n p nx kd nu : Nat} {nm : Int64} {ky : Int32} (h : urTk t n p nx kd nu nm ky) (k : ky = 10) : urAb t n p = urNum t n 1 99 (urAd t n p) := by
  unfold urAb
  rw [← urTkKy h, uItP k]
theorem urAbS {t : Nat → Int32} {n p nx kd nu : Nat} {nm : Int64} {ky : Int32} (h : urTk t n p nx kd nu nm ky) (k : ky = 8) : urAb t n p = urSnd t n (urAd t n p) := by
  unfold urAb
  rw [← urTkKy h, uItN (by rw [k]; decide), uItP k]
theorem urAbO {t : Nat → Int32} {n p nx kd nu : Nat} {nm : Int64} {ky : Int32} (h : urTk t n p nx kd nu nm ky) (k : ¬ ky = 10) (k2 : ¬ ky = 8) : urAb t n p = urOk (urAd t n p) := by
  unfold urAb
  rw [← urTkKy h, uItN k, uItN k2]
/-- send's pieces -/
theorem urSndF {t : Nat → Int32} {n p : Nat} {f g : Int32} (h : urIs (urNam t n p) f g) : urIs (urSnd t n p) f g := urThI h
theorem urSndT {t : Nat → Int32} {n p b : Nat} (h : urKd t n p = 1 ∧ urKy t n p = -1) (e : b = urAd t n p) (k : ¬ urKy t n b = 9) : urSnd t n p = urOk b ∧ urTp t n p = -1 := by
  subst e
  exact ⟨urThP (urNam2 h) (uItN k), uItN k⟩
theorem urSndN {t : Nat → Int32} {n p b : Nat} {f g : Int32} (h : urKd t n p = 1 ∧ urKy t n p = -1) (e : b = urAd t n p) (k : urKy t n b = 9) (q : urIs (urNum t n 0 11 (urAd t n b)) f g) : urIs (urSnd t n p) f g := by
  subst e
  exact urThK (urNam2 h) (by rw [uItP k]; exact q)
theorem urSndO {t : Nat → Int32} {n p b c d nu : Nat} (h : urKd t n p = 1 ∧ urKy t n p = -1) (e : b = urAd t n p) (k : urKy t n b = 9) (e2 : c = urAd t n b) (q : urKd t n c = 2 ∧ (0 ≤ urNu t n c ∧ urNu t n c ≤ 11) ∧ nu = urNu t n c) (e3 : d = urAd t n c) : urSnd t n p = urOk d ∧ urTp t n p = nI nu := by
  subst e; subst e2
  refine ⟨urThP (urNam2 h) (by rw [uItP k]; exact urNumP q e3), ?_⟩
  unfold urTp
  rw [uItP k, q.2.2]
/-! an order's head -/
noncomputable def urOq (t : Nat → Int32) (n p : Nat) : Int32 := uIte (urKy t n (urAd t n p) = 12) (-1) (nI (urNu t n (urAd t n p)))
noncomputable def urOt (t : Nat → Int32) (n p : Nat) : Int32 := uIte (urKy t n (urAd t n (urAd t n (urAd t n p))) = 5) 1 0
noncomputable def urOe (t : Nat → Int32) (n p : Nat) : Nat := urAd t n (urTw t n (urAd t n (urAd t n (urAd t n p))))
theorem urOpA {t : Nat → Int32} {n p q : Nat} (c : urKy t n p = 12) (e : q = urAd t n p) : urOp t n p = urOk q := by unfold urOp; rw [uItP c, e]
theorem urOpN {t : Nat → Int32} {n p q nu : Nat} (c : ¬ urKy t n p = 12) (h : urKd t n p = 2 ∧ (0 ≤ urNu t n p ∧ urNu t n p ≤ 11) ∧ nu = urNu t n p) (e : q = urAd t n p) : urOp t n p = urOk q := by unfold urOp; rw [uItN c]; exact urNumP h e
theorem urOhF1 {t : Nat → Int32} {n p p1 : Nat} {f g : Int32} (a1 : p1 = urAd t n p) (c : ¬ urKy t n p1 = 12) (q : urIs (urNum t n 0 11 p1) f g) : urIs (urOh t n p) f g := by
  subst a1
  refine urThI (urThI ?_)
  unfold urOp
  rw [uItN c]
  exact q
theorem urOhF2 {t : Nat → Int32} {n p p1 p2 : Nat} {f g : Int32} (a1 : p1 = urAd t n p) (o : urOp t n p1 = urOk p2) (q : urIs (urNam t n p2) f g) : urIs (urOh t n p) f g := by
  subst a1
  exact urThI (urThK o q)
theorem urOhF3 {t : Nat → Int32} {n p p1 p2 p3 p4 : Nat} {f g : Int32} (a1 : p1 = urAd t n p) (o : urOp t n p1 = urOk p2) (m : urNam t n p2 = urOk p3) (w : p4 = urTw t n p3) (q : urIs (urKey t n 6 p4) f g) : urIs (urOh t n p) f g := by
  subst a1; subst w
  exact urThK (urThP o m) q
theorem urOhT {t : Nat → Int32} {n p p1 p2 p3 p4 p5 : Nat} (a1 : p1 = urAd t n p) (o : urOp t n p1 = urOk p2) (m : urNam t n p2 = urOk p3) (w : p4 = urTw t n p3) (q : urKey t n 6 p4 = urOk p5) : urOh t n p = urOk p5 := by
  subst a1; subst w
  exact urThP (urThP o m) q
theorem urTwY {t : Nat → Int32} {n b q : Nat} (c : urKy t n b = 5) (e : q = urAd t n b) : q = urTw t n b := by unfold urTw; rw [uItP c, e]
theorem urTwN {t : Nat → Int32} {n b : Nat} (c : ¬ urKy t n b = 5) : b = urTw t n b := by unfold urTw; rw [uItN c]
theorem urKeyO {t : Nat → Int32} {n p q : Nat} {k : Int32} (h : urKey t n k p = urOk q) : urKy t n p = k ∧ q = urAd t n p := by
  by_cases c : urKy t n p = k
  · rw [urKey2 c] at h; exact ⟨c, (urOkI h).symm⟩
  · rw [urKey1 c] at h; exact absurd (show (1 : Int32) = 0 from congrArg (fun r => r.1) h) (by decide)
theorem urOeE {t : Nat → Int32} {n p p1 p2 p3 p4 p5 : Nat} (a1 : p1 = urAd t n p) (a2 : p2 = urAd t n p1) (a3 : p3 = urAd t n p2) (w : p4 = urTw t n p3) (q : urKey t n 6 p4 = urOk p5) : p5 = urOe t n p := by
  subst a1; subst a2; subst a3; subst w
  exact (urKeyO q).2
theorem urOqA {t : Nat → Int32} {n p p1 : Nat} (a1 : p1 = urAd t n p) (c : urKy t n p1 = 12) : (-1 : Int32) = urOq t n p := by subst a1; unfold urOq; rw [uItP c]
theorem urOqN {t : Nat → Int32} {n p p1 nu : Nat} (a1 : p1 = urAd t n p) (c : ¬ urKy t n p1 = 12) (h : nu = urNu t n p1) : nI nu = urOq t n p := by subst a1; unfold urOq; rw [uItN c, h]
theorem urOtY {t : Nat → Int32} {n p p1 p2 p3 : Nat} (a1 : p1 = urAd t n p) (a2 : p2 = urAd t n p1) (a3 : p3 = urAd t n p2) (c : urKy t n p3 = 5) : (1 : Int32) = urOt t n p := by subst a1; subst a2; subst a3; unfold urOt; rw [uItP c]
theorem urOtN {t : Nat → Int32} {n p p1 p2 p3 : Nat} (a1 : p1 = urAd t n p) (a2 : p2 = urAd t n p1) (a3 : p3 = urAd t n p2) (c : ¬ urKy t n p3 = 5) : (0 : Int32) = urOt t n p := by subst a1; subst a2; subst a3; unfold urOt; rw [uItN c]
theorem urA2 {t : Nat → Int32} {n p p1 p2 : Nat} (a1 : p1 = urAd t n p) (a2 : p2 = urAd t n p1) : p2 = urAd t n (urAd t n p) := by rw [a2, a1]
/-! an order's acts -/
noncomputable def urAe (t : Nat → Int32) (n a : Nat) : Nat := (urAb t n a).2.2
noncomputable def urAk (t : Nat → Int32) (n : Nat) : Nat → Nat → Nat
  | 0, p => 0
  | j + 1, p => 1 + uIte (urKd t n (urAe t n p) = 4) (urAk t n j (urAd t n (urAe t n p))) 0
noncomputable def urAp (t : Nat → Int32) (n a : Nat) : Nat → Nat
  | 0 => a
  | i + 1 => urAd t n (urAe t n (urAp t n a i))
/-- the acts so far: i of them read, the place is behind them and their commas -/
def urAi (t : Nat → Int32) (n a i p : Nat) : Prop := p = urAp t n a i ∧ i ≤ 4 ∧ urAs t n 4 a = urAs t n (4 - i) p ∧ urAk t n 4 a = i + urAk t n (4 - i) p
theorem urAi0 {t : Nat → Int32} {n a : Nat} : urAi t n a 0 a := ⟨rfl, by decide, rfl, (Nat.zero_add _).symm⟩
theorem urAiF {t : Nat → Int32} {n a i p : Nat} {f g : Int32} (h : urAi t n a i p) (q : urIs (urAa t n i p) f g) : urIs (urAs t n 4 a) f g := by
  obtain ⟨h1, h2, h3, h4⟩ := h
  rw [h3]
  unfold urAa at q
  by_cases c : i < 4
  · obtain ⟨j, e⟩ : ∃ j, 4 - i = j + 1 := ⟨3 - i, by omega⟩
    rw [e]
    show urIs (uIte (urIa (urKy t n p)) (urTh (urAb t n p) _) (urBd 1 p)) f g
    by_cases d : urIa (urKy t n p)
    · rw [uItP d] at q ⊢
      rw [uItP c] at q
      exact urThI q
    · rw [uItN d] at q ⊢
      exact q
  · rw [show 4 - i = 0 by omega]
    show urIs (uIte (urIa (urKy t n p)) (urBd 2 p) (urBd 1 p)) f g
    by_cases d : urIa (urKy t n p)
    · rw [uItP d] at q ⊢
      rw [uItN c] at q
      exact q
    · rw [uItN d] at q ⊢
      exact q
theorem urAaO {t : Nat → Int32} {n c p e : Nat} (q : urAa t n c p = urOk e) : urIa (urKy t n p) ∧ c < 4 ∧ urAb t n p = urOk e := by
  unfold urAa at q
  by_cases d : urIa (urKy t n p)
  · rw [uItP d] at q
    by_cases k : c < 4
    · rw [uItP k] at q; exact ⟨d, k, q⟩
    · rw [uItN k] at q; exact absurd (congrArg (fun r => r.1) q) (show ¬ (2 : Int32) = 0 by decide)
  · rw [uItN d] at q; exact absurd (congrArg (fun r => r.1) q) (show ¬ (1 : Int32) = 0 by decide)
theorem urAeO {t : Nat → Int32} {n p e : Nat} (q : urAb t n p = urOk e) : urAe t n p = e := by unfold urAe; rw [q]; rfl
theorem urAiS {t : Nat → Int32} {n a i p e b : Nat} (h : urAi t n a i p) (q : urAa t n i p = urOk e) (k : urKd t n e = 4) (eb : b = urAd t n e) : urAi t n a (i + 1) b := by
  obtain ⟨h1, h2, h3, h4⟩ := h
  obtain ⟨q1, q2, q3⟩ := urAaO q
  obtain ⟨j, ej⟩ : ∃ j, 4 - i = j + 1 := ⟨3 - i, by omega⟩
  have e2 : 4 - (i + 1) = j := by omega
  have e3 := urAeO q3
  subst eb
  refine ⟨?_, by omega, ?_, ?_⟩
  · show _ = urAd t n (urAe t n (urAp t n a i))
    rw [← h1, e3]
  · rw [h3, ej, e2]
    show uIte (urIa (urKy t n p)) (urTh (urAb t n p) (fun e => uIte (urKd t n e = 4) (urAs t n j (urAd t n e)) (urOk e))) (urBd 1 p) = _
    rw [uItP q1, urThE q3, uItP k]
  · rw [h4, ej, e2]
    show i + (1 + uIte (urKd t n (urAe t n p) = 4) (urAk t n j (urAd t n (urAe t n p))) 0) = _
    rw [e3, uItP k]
    omega
theorem urAiE {t : Nat → Int32} {n a i p e : Nat} (h : urAi t n a i p) (q : urAa t n i p = urOk e) (k : ¬ urKd t n e = 4) : urAs t n 4 a = urOk e ∧ urAk t n 4 a = i + 1 := by
  obtain ⟨h1, h2, h3, h4⟩ := h
  obtain ⟨q1, q2, q3⟩ := urAaO q
  obtain ⟨j, ej⟩ : ∃ j, 4 - i = j + 1 := ⟨3 - i, by omega⟩
  have e3 := urAeO q3
  refine ⟨?_, ?_⟩
  · rw [h3, ej]
    show uIte (urIa (urKy t n p)) (urTh (urAb t n p) (fun e => uIte (urKd t n e = 4) (urAs t n j (urAd t n e)) (urOk e))) (urBd 1 p) = _
    rw [uItP q1, urThE q3, uItN k]
  · rw [h4, ej]
    show i + (1 + uIte (urKd t n (urAe t n p) = 4) (urAk t n j (urAd t n (urAe t n p))) 0) = _
    rw [e3, uItN k]
/-- the slots of the acts so far -/
def urSs (t : Nat → Int32) (n a b i : Nat) (ac : Nat → Int32) (nm : Nat → Int64) (pl po nu : Nat → Int32) : Prop := ∀ j, j < i → urSl t n (urAp t n a j) (ac (b + j)) (nm (b + j)) (pl (b + j)) (po (b + j)) (nu (b + j))
theorem urSs0 {t : Nat → Int32} {n a b : Nat} {ac : Nat → Int32} {nm : Nat → Int64} {pl po nu : Nat → Int32} : urSs t n a b 0 ac nm pl po nu := fun j h => absurd h (Nat.not_lt_zero j)
theorem urSsS {t : Nat → Int32} {n a b i p k : Nat} {ac ac' : Nat → Int32} {nm nm' : Nat → Int64} {pl pl' po po' nu nu' : Nat → Int32} (h : urSs t n a b i ac nm pl po nu) (hi : urAi t n a i p) (hk : k = b + i) (s : urSl t n p (ac' k) (nm' k) (pl' k) (po' k) (nu' k)) (f : urFr k ac ac' nm nm' pl pl' po po' nu nu') : urSs t n a b (i + 1) ac' nm' pl' po' nu' := by
  subst hk
  intro j hj
  by_cases c : j = i
  · subst c; rw [← hi.1]; exact s
  · obtain ⟨f1, f2, f3, f4, f5⟩ := f (b + j) (by omega)
    rw [f1, f2, f3, f4, f5]
    exact h j (by omega)
/-- rows stay but for places from b on -/
def urFb (b c : Nat) (ac ac' : Nat → Int32) (nm nm' : Nat → Int64) (pl pl' po po' nu nu' : Nat → Int32) : Prop := ∀ j, ¬ (b ≤ j ∧ j < b + c) → ac' j = ac j ∧ nm' j = nm j ∧ pl' j = pl j ∧ po' j = po j ∧ nu' j = nu j
theorem urFb0 {b c : Nat} {ac : Nat → Int32} {nm : Nat → Int64} {pl po nu : Nat → Int32} : urFb b c ac ac nm nm pl pl po po nu nu := fun _ _ => ⟨rfl, rfl, rfl, rfl, rfl⟩
theorem urFbS {b c k : Nat} {ac ac' ad : Nat → Int32} {nm nm' nd : Nat → Int64} {pl pl' ld po po' od nu nu' ud : Nat → Int32} (h : urFb b c ac ac' nm nm' pl pl' po po' nu nu') (hk : b ≤ k ∧ k < b + c) (f : urFr k ac' ad nm' nd pl' ld po' od nu' ud) : urFb b c ac ad nm nd pl ld po od nu ud := by
  intro j hj
  obtain ⟨f1, f2, f3, f4, f5⟩ := f j (by omega)
  obtain ⟨h1, h2, h3, h4, h5⟩ := h j hj
  exact ⟨f1.trans h1, f2.trans h2, f3.trans h3, f4.trans h4, f5.trans h5⟩
theorem urAaY {t : Nat → Int32} {n c p q nx kd nu : Nat} {nm : Int64} {ky : Int32} (h : urTk t n p nx kd nu nm ky) (k : urIa ky) (d : c < 4) (k1 : ¬ ky = 10) (k2 : ¬ ky = 8) (e : q = urAd t n p) : urAa t n c p = urOk q := by rw [urAa3 h k d, urAbO h k1 k2, e]
theorem urAaW {t : Nat → Int32} {n c p q r nx kd nu : Nat} {nm : Int64} {ky : Int32} (h : urTk t n p nx kd nu nm ky) (d : c < 4) (k : ky = 10) (e : q = urAd t n p) (o : urNum t n 1 99 q = urOk r) : urAa t n c p = urOk r := by rw [urAa3 h (urIa10 k) d, urAbW h k, ← e, o]
theorem urAaWF {t : Nat → Int32} {n c p q nx kd nu : Nat} {nm : Int64} {ky f g : Int32} (h : urTk t n p nx kd nu nm ky) (d : c < 4) (k : ky = 10) (e : q = urAd t n p) (o : urIs (urNum t n 1 99 q) f g) : urIs (urAa t n c p) f g := by rw [urAa3 h (urIa10 k) d, urAbW h k, ← e]; exact o
theorem urAaS {t : Nat → Int32} {n c p q r nx kd nu : Nat} {nm : Int64} {ky : Int32} (h : urTk t n p nx kd nu nm ky) (d : c < 4) (k : ky = 8) (e : q = urAd t n p) (o : urSnd t n q = urOk r) : urAa t n c p = urOk r := by rw [urAa3 h (urIa8 k) d, urAbS h k, ← e, o]
theorem urAaSF {t : Nat → Int32} {n c p q nx kd nu : Nat} {nm : Int64} {ky f g : Int32} (h : urTk t n p nx kd nu nm ky) (d : c < 4) (k : ky = 8) (e : q = urAd t n p) (o : urIs (urSnd t n q) f g) : urIs (urAa t n c p) f g := by rw [urAa3 h (urIa8 k) d, urAbS h k, ← e]; exact o
theorem urSlO {t : Nat → Int32} {n p nx kd nu : Nat} {nm nm' : Int64} {ky ac pl po nw : Int32} (h : urTk t n p nx kd nu nm ky) (a : ac = ky) (k1 : ¬ ky = 10) (k2 : ¬ ky = 8) : urSl t n p ac nm' pl po nw := ⟨a.trans (urTkKy h), fun q => absurd ((urTkKy h).trans q) k2, fun q => absurd ((urTkKy h).trans q) k1⟩
theorem urSlW {t : Nat → Int32} {n p q nx kd nu : Nat} {nm nm' : Int64} {ky ac pl po nw : Int32} (h : urTk t n p nx kd nu nm ky) (a : ac = ky) (k : ky = 10) (e : q = urAd t n p) (o : nw = nI (urNu t n q)) : urSl t n p ac nm' pl po nw := ⟨a.trans (urTkKy h), fun z => absurd (((urTkKy h).trans z).symm.trans k) (by decide), fun _ => by rw [← e]; exact o⟩
theorem urSndK {t : Nat → Int32} {n q r : Nat} (o : urSnd t n q = urOk r) : urKd t n q = 1 := by
  have z := urTh0 (show (urTh (urNam t n q) (fun b => uIte (urKy t n b = 9) (urNum t n 0 11 (urAd t n b)) (urOk b))).1 = 0 from congrArg (fun r => r.1) o)
  exact (urNamZ z.1).1
theorem urSlS {t : Nat → Int32} {n p q r nx kd nu : Nat} {nm nm' : Int64} {ky ac pl po nw : Int32} (h : urTk t n p nx kd nu nm ky) (a : ac = ky) (k : ky = 8) (e : q = urAd t n p) (o1 : nm' = lN (urNm 32 t n q)) (o2 : pl = nI q) (o3 : po = urTp t n q) (o : urSnd t n q = urOk r) : urSl t n p ac nm' pl po nw := ⟨a.trans (urTkKy h), fun _ => by rw [← e]; exact ⟨o1, o2, o3, urSndK o⟩, fun z => absurd (((urTkKy h).trans z).symm.trans k) (by decide)⟩
theorem urFrO {k : Nat} {v : Int32} {a c d e : Nat → Int32} {b : Nat → Int64} : urFr k a (upd a k v) b b c c d d e e := fun _ h => ⟨pk_un h, rfl, rfl, rfl, rfl⟩
theorem urFrW {k : Nat} {v w : Int32} {a c d e e' : Nat → Int32} {b : Nat → Int64} (s : urSet e' e k w) : urFr k a (upd a k v) b b c c d d e e' := fun j h => ⟨pk_un h, rfl, rfl, rfl, s.2 j h⟩
theorem urFrS {k : Nat} {v w2 w3 : Int32} {w1 : Int64} {a c c' d d' e : Nat → Int32} {b b' : Nat → Int64} (s1 : urSet b' b k w1) (s2 : urSet c' c k w2) (s3 : urSet d' d k w3) : urFr k a (upd a k v) b b' c c' d d' e e := fun j h => ⟨pk_un h, s1.2 j h, s2.2 j h, s3.2 j h, rfl⟩
/-! told, and rows told -/
def urTd (f : Nat → Int64) (W : Nat) (x : Int64) : Prop := ∃ k, k < W ∧ f k = x
def urDp (f : Nat → Int32) (W : Nat) (x : Int32) : Prop := ∃ k, k < W ∧ f k = x
theorem urTdN {f : Nat → Int64} {x : Int64} {W j : Nat} (hj : W ≤ j) (h : urNl f x j) : ¬ urTd f W x := by rintro ⟨k, hk, e⟩; exact h k (by omega) e
def urDl (f : Nat → Int32) (x : Int32) (j : Nat) : Prop := ∀ k, k < j → ¬ f k = x
theorem urDl0 {f : Nat → Int32} {x : Int32} : urDl f x 0 := fun k h => absurd h (Nat.not_lt_zero _)
theorem urDlS {f : Nat → Int32} {x : Int32} {j : Nat} (h : urDl f x j) (c : ¬ f j = x) : urDl f x (j + 1) := by
  intro k hk
  by_cases e : k = j
  · rw [e]; exact c
  · exact h k (by omega)
theorem urDpN {f : Nat → Int32} {x : Int32} {W j : Nat} (hj : W ≤ j) (h : urDl f x j) : ¬ urDp f W x := by rintro ⟨k, hk, e⟩; exact h k (by omega) e
theorem urWdF1 {t : Nat → Int32} {n p p1 : Nat} {told dup : Prop} {f g : Int32} (a1 : p1 = urAd t n p) (h : urIs (urNam t n p1) f g) : urIs (urWd t n told dup p) f g := by
  subst a1
  exact urThI h
theorem urWdF2 {t : Nat → Int32} {n p p1 q : Nat} {told dup : Prop} (a1 : p1 = urAd t n p) (m : urNam t n p1 = urOk q) (c : told) : urIs (urWd t n told dup p) 3 (nI p1) := by
  subst a1
  refine urThK m ?_
  rw [uItP c]
  exact urIsB (by decide)
theorem urWdF3 {t : Nat → Int32} {n p p1 q : Nat} {told dup : Prop} {f g : Int32} (a1 : p1 = urAd t n p) (m : urNam t n p1 = urOk q) (c : ¬ told) (h : urIs (urRo t n 5 q) f g) : urIs (urWd t n told dup p) f g := by
  subst a1
  refine urThK m ?_
  rw [uItN c]
  exact urThI h
theorem urWdF4 {t : Nat → Int32} {n p p1 q e : Nat} {told dup : Prop} (a1 : p1 = urAd t n p) (m : urNam t n p1 = urOk q) (c : ¬ told) (h : urRo t n 5 q = urOk e) (d : dup) : urIs (urWd t n told dup p) 3 (nI q) := by
  subst a1
  refine urThK m ?_
  rw [uItN c]
  refine urThK h ?_
  rw [uItP d]
  exact urIsB (by decide)
theorem urWdT {t : Nat → Int32} {n p p1 q e : Nat} {told dup : Prop} (a1 : p1 = urAd t n p) (m : urNam t n p1 = urOk q) (c : ¬ told) (h : urRo t n 5 q = urOk e) (d : ¬ dup) : urWd t n told dup p = urOk e := by
  subst a1
  refine urThP m ?_
  rw [uItN c]
  refine urThP h ?_
  rw [uItN d]
theorem urRwN {t : Nat → Int32} {n q k p v : Nat} (h : urRi t n q k p) (e : v = urNu t n p) : urFo 10 (urSg t n q) k * 10 + v = urFo 10 (urSg t n q) (k + 1) := by
  show _ = 10 * urFo 10 (urSg t n q) k + urSg t n q k
  unfold urSg
  rw [← h.1, e, Nat.mul_comm]
theorem urRwE {t : Nat → Int32} {n q k p v : Nat} (h : urRi t n q k p) (e : v = urNu t n p) (r : urRl t n 5 q = k + 1) : urFo 10 (urSg t n q) k * 10 + v = urRc t n q := by
  unfold urRc
  rw [r]
  exact urRwN h e
theorem urRoO {t : Nat → Int32} {n q e j : Nat} (h : urRo t n j q = urOk e) : (urRo t n j q).1 = 0 := by rw [h]; rfl
/-! the whole text -/
def urPu (f : Nat → Nat) (k v : Nat) : Nat → Nat := fun i => if i = k then v else f i
theorem urPuS {f : Nat → Nat} {k v : Nat} : urPu f k v k = v := if_pos rfl
theorem urPuN {f : Nat → Nat} {k v i : Nat} (h : ¬ i = k) : urPu f k v i = f i := if_neg h
def urTa (t : Nat → Int32) (n W : Nat) (pw : Nat → Nat) (q : Nat) : Prop := ∃ k, k < W ∧ urNm 32 t n (pw k) = urNm 32 t n q
def urDa (t : Nat → Int32) (n W : Nat) (pw : Nat → Nat) (q : Nat) : Prop := ∃ k, k < W ∧ urRc t n (urAd t n (pw k)) = urRc t n q
abbrev urR : Type := (Int32 × Int32 × Nat) × (Nat × Nat × Nat) × (Int32 × Int32) × (Nat → Nat) × (Nat → Nat) × (Nat → Nat)
noncomputable def urLa (t : Nat → Int32) (n p W L O : Nat) (mt lt : Int32) (pw : Nat → Nat) : Int32 × Int32 × Nat := urLi t n (urTa t n W pw (urAd t n p)) (urDa t n W pw (urAd t n (urAd t n p))) W L O (¬ mt = 0) (¬ lt = 0) p
noncomputable def urAl (t : Nat → Int32) (n : Nat) : Nat → Nat → Nat → Nat → Nat → Int32 → Int32 → Int32 → Int32 → (Nat → Nat) → (Nat → Nat) → (Nat → Nat) → urR
  | 0, p, W, L, O, _, _, mi, lo, pw, pl, po => (urOk p, (W, L, O), (mi, lo), pw, pl, po)
  | k + 1, p, W, L, O, mt, lt, mi, lo, pw, pl, po =>
    uIte (urKd t n p = 0) (urOk p, (W, L, O), (mi, lo), pw, pl, po)
    (uIte ((urLa t n p W L O mt lt pw).1 = 0)
      (uIte (urKy t n p = 0) (urAl t n k (urLa t n p W L O mt lt pw).2.2 (W + 1) L O mt lt mi lo (urPu pw W (urAd t n p)) pl po)
      (uIte (urKy t n p = 1) (urAl t n k (urLa t n p W L O mt lt pw).2.2 W (L + 1) O mt lt mi lo pw (urPu pl L (urAd t n p)) po)
      (uIte (urKy t n p = 2) (urAl t n k (urLa t n p W L O mt lt pw).2.2 W L O 1 lt (nI (urNu t n (urAd t n p))) lo pw pl po)
      (uIte (urKy t n p = 3) (urAl t n k (urLa t n p W L O mt lt pw).2.2 W L O mt 1 mi (nI (urNu t n (urAd t n p))) pw pl po)
      (urAl t n k (urLa t n p W L O mt lt pw).2.2 W L (O + 1) mt lt mi lo pw pl (urPu po O p))))))
      (urLa t n p W L O mt lt pw, (W, L, O), (mi, lo), pw, pl, po))
noncomputable def urFin (t : Nat → Int32) (n : Nat) : urR := urAl t n n (urTo (urBl t) n 0) 0 0 0 0 0 2 1 (fun _ => 0) (fun _ => 0) (fun _ => 0)
theorem urAlE {t : Nat → Int32} {n k p W L O : Nat} {mt lt mi lo : Int32} {pw pl po : Nat → Nat} (h : urKd t n p = 0) : urAl t n k p W L O mt lt mi lo pw pl po = (urOk p, (W, L, O), (mi, lo), pw, pl, po) := by
  cases k with
  | zero => rfl
  | succ k => exact uItP h
theorem urAlF {t : Nat → Int32} {n k p W L O : Nat} {mt lt mi lo f g : Int32} {pw pl po : Nat → Nat} (h : ¬ urKd t n p = 0) (b : urIs (urLa t n p W L O mt lt pw) f g) : urIs (urAl t n (k + 1) p W L O mt lt mi lo pw pl po).1 f g := by
  have e : urAl t n (k + 1) p W L O mt lt mi lo pw pl po = (urLa t n p W L O mt lt pw, (W, L, O), (mi, lo), pw, pl, po) := by
    show uIte (urKd t n p = 0) _ (uIte ((urLa t n p W L O mt lt pw).1 = 0) _ _) = _
    rw [uItN h, uItN (by rw [b.1]; exact b.2)]
  rw [e]
  exact b
theorem urAlS {t : Nat → Int32} {n k p q W L O : Nat} {mt lt mi lo : Int32} {pw pl po : Nat → Nat} (h : ¬ urKd t n p = 0) (b : urLa t n p W L O mt lt pw = urOk q) : urAl t n (k + 1) p W L O mt lt mi lo pw pl po =
    uIte (urKy t n p = 0) (urAl t n k q (W + 1) L O mt lt mi lo (urPu pw W (urAd t n p)) pl po)
      (uIte (urKy t n p = 1) (urAl t n k q W (L + 1) O mt lt mi lo pw (urPu pl L (urAd t n p)) po)
      (uIte (urKy t n p = 2) (urAl t n k q W L O 1 lt (nI (urNu t n (urAd t n p))) lo pw pl po)
      (uIte (urKy t n p = 3) (urAl t n k q W L O mt 1 mi (nI (urNu t n (urAd t n p))) pw pl po)
      (urAl t n k q W L (O + 1) mt lt mi lo pw pl (urPu po O p))))) := by
  show uIte (urKd t n p = 0) _ _ = _
  rw [uItN h, b, uItP (show (urOk q).1 = 0 from rfl)]
  rfl
/-! a line's body, by its first word -/
theorem urBo0 {t : Nat → Int32} {n p W L O : Nat} {told dup mt lt : Prop} (k : urKy t n p = 0) (c : W < 10) : urBo t n told dup W L O mt lt p = urWd t n told dup p := by unfold urBo; rw [uItP k, uItP c]
theorem urBo0N {t : Nat → Int32} {n p W L O : Nat} {told dup mt lt : Prop} (k : urKy t n p = 0) (c : ¬ W < 10) : urIs (urBo t n told dup W L O mt lt p) 2 (nI p) := by unfold urBo; rw [uItP k, uItN c]; exact urIsB (by decide)
theorem urBo1 {t : Nat → Int32} {n p W L O : Nat} {told dup mt lt : Prop} (k : urKy t n p = 1) (c : L < 8) : urBo t n told dup W L O mt lt p = urLk t n p := by unfold urBo; rw [uItN (by rw [k]; decide), uItP k, uItP c]
theorem urBo1N {t : Nat → Int32} {n p W L O : Nat} {told dup mt lt : Prop} (k : urKy t n p = 1) (c : ¬ L < 8) : urIs (urBo t n told dup W L O mt lt p) 2 (nI p) := by unfold urBo; rw [uItN (by rw [k]; decide), uItP k, uItN c]; exact urIsB (by decide)
theorem urBo2 {t : Nat → Int32} {n p W L O : Nat} {told dup mt lt : Prop} (k : urKy t n p = 2) (c : ¬ mt) : urBo t n told dup W L O mt lt p = urNum t n 1 9 (urAd t n p) := by unfold urBo; rw [uItN (by rw [k]; decide), uItN (by rw [k]; decide), uItP k, uItN c]
theorem urBo2N {t : Nat → Int32} {n p W L O : Nat} {told dup mt lt : Prop} (k : urKy t n p = 2) (c : mt) : urIs (urBo t n told dup W L O mt lt p) 3 (nI p) := by unfold urBo; rw [uItN (by rw [k]; decide), uItN (by rw [k]; decide), uItP k, uItP c]; exact urIsB (by decide)
theorem urBo3 {t : Nat → Int32} {n p W L O : Nat} {told dup mt lt : Prop} (k : urKy t n p = 3) (c : ¬ lt) : urBo t n told dup W L O mt lt p = urNum t n 0 30 (urAd t n p) := by unfold urBo; rw [uItN (by rw [k]; decide), uItN (by rw [k]; decide), uItN (by rw [k]; decide), uItP k, uItN c]
theorem urBo3N {t : Nat → Int32} {n p W L O : Nat} {told dup mt lt : Prop} (k : urKy t n p = 3) (c : lt) : urIs (urBo t n told dup W L O mt lt p) 3 (nI p) := by unfold urBo; rw [uItN (by rw [k]; decide), uItN (by rw [k]; decide), uItN (by rw [k]; decide), uItP k, uItP c]; exact urIsB (by decide)
theorem urBo4 {t : Nat → Int32} {n p W L O : Nat} {told dup mt lt : Prop} (k : urKy t n p = 4) (c : O < 16) : urBo t n told dup W L O mt lt p = urOr t n p := by unfold urBo; rw [uItN (by rw [k]; decide), uItN (by rw [k]; decide), uItN (by rw [k]; decide), uItN (by rw [k]; decide), uItP k, uItP c]
theorem urBo4N {t : Nat → Int32} {n p W L O : Nat} {told dup mt lt : Prop} (k : urKy t n p = 4) (c : ¬ O < 16) : urIs (urBo t n told dup W L O mt lt p) 2 (nI p) := by unfold urBo; rw [uItN (by rw [k]; decide), uItN (by rw [k]; decide), uItN (by rw [k]; decide), uItN (by rw [k]; decide), uItP k, uItN c]; exact urIsB (by decide)
theorem urBo5N {t : Nat → Int32} {n p W L O : Nat} {told dup mt lt : Prop} (k0 : ¬ urKy t n p = 0) (k1 : ¬ urKy t n p = 1) (k2 : ¬ urKy t n p = 2) (k3 : ¬ urKy t n p = 3) (k4 : ¬ urKy t n p = 4) : urIs (urBo t n told dup W L O mt lt p) 1 (nI p) := by unfold urBo; rw [uItN k0, uItN k1, uItN k2, uItN k3, uItN k4]; exact urIsB (by decide)
theorem urWdE {t : Nat → Int32} {n p : Nat} {told dup told' dup' : Prop} (h : urKd t n (urAd t n p) = 1 → (told ↔ told')) (k : (urRo t n 5 (urAd t n (urAd t n p))).1 = 0 → (dup ↔ dup')) : urWd t n told dup p = urWd t n told' dup' p := by
  unfold urWd
  by_cases c : urKd t n (urAd t n p) = 1 ∧ urKy t n (urAd t n p) = -1
  · rw [urNam2 c, urThO, urThO]
    have e := h c.1
    by_cases d : told
    · rw [uItP d, uItP (e.mp d)]
    · rw [uItN d, uItN (fun z => d (e.mpr z))]
      by_cases r : (urRo t n 5 (urAd t n (urAd t n p))).1 = 0
      · have e2 := k r
        have z : (fun e => uIte dup (urBd 3 (urAd t n (urAd t n p))) (urOk e)) = (fun e => uIte dup' (urBd 3 (urAd t n (urAd t n p))) (urOk e)) := by
          funext e
          by_cases d2 : dup
          · rw [uItP d2, uItP (e2.mp d2)]
          · rw [uItN d2, uItN (fun z => d2 (e2.mpr z))]
        rw [z]
      · unfold urTh
        rw [if_neg r, if_neg r]
  · rw [urNam1 c]
    unfold urTh
    rw [if_neg (show ¬ (urBd 1 (urAd t n p)).1 = 0 from by show ¬ (1 : Int32) = 0; decide), if_neg (show ¬ (urBd 1 (urAd t n p)).1 = 0 from by show ¬ (1 : Int32) = 0; decide)]
/-! the class's words and orders, by the text -/
def urCw (t : Nat → Int32) (n W : Nat) (pw : Nat → Nat) (f : Nat → Int64) (g h : Nat → Int32) : Prop := ∀ k, k < W → (urKd t n (pw k) = 1 ∧ (urRo t n 5 (urAd t n (pw k))).1 = 0) ∧ f k = lN (urNm 32 t n (pw k)) ∧ g k = nI (urRc t n (urAd t n (pw k))) ∧ h k = nI (urRl t n 5 (urAd t n (pw k)))
theorem urCw0 {t : Nat → Int32} {n : Nat} {pw : Nat → Nat} {f : Nat → Int64} {g h : Nat → Int32} : urCw t n 0 pw f g h := fun k hk => absurd hk (Nat.not_lt_zero k)
theorem urCwS {t : Nat → Int32} {n W q : Nat} {pw : Nat → Nat} {f f' : Nat → Int64} {g g' h h' : Nat → Int32} (c : urCw t n W pw f g h) (v : urKd t n q = 1) (v2 : (urRo t n 5 (urAd t n q)).1 = 0) (s1 : urSet f' f W (lN (urNm 32 t n q))) (s2 : urSet g' g W (nI (urRc t n (urAd t n q)))) (s3 : urSet h' h W (nI (urRl t n 5 (urAd t n q)))) : urCw t n (W + 1) (urPu pw W q) f' g' h' := by
  intro k hk
  by_cases e : k = W
  · subst e
    rw [urPuS]
    exact ⟨⟨v, v2⟩, s1.1, s2.1, s3.1⟩
  · rw [urPuN e, s1.2 k e, s2.2 k e, s3.2 k e]
    exact c k (by omega)
theorem urNmX {t : Nat → Int32} {n p q : Nat} (h : urKd t n p = 1) (k : urKd t n q = 1) : lN (urNm 32 t n p) = lN (urNm 32 t n q) ↔ urNm 32 t n p = urNm 32 t n q := urlN (urNCB (by decide) (by decide) (urLs1 h)) (urNCB (by decide) (by decide) (urLs1 k))
theorem urTdC {t : Nat → Int32} {n W q : Nat} {pw : Nat → Nat} {f : Nat → Int64} {g h : Nat → Int32} (c : urCw t n W pw f g h) (v : urKd t n q = 1) : urTd f W (lN (urNm 32 t n q)) ↔ urTa t n W pw q := by
  constructor
  · rintro ⟨k, hk, e⟩
    exact ⟨k, hk, (urNmX (c k hk).1.1 v).mp ((c k hk).2.1.symm.trans e)⟩
  · rintro ⟨k, hk, e⟩
    exact ⟨k, hk, (c k hk).2.1.trans ((urNmX (c k hk).1.1 v).mpr e)⟩
theorem urDpC {t : Nat → Int32} {n W q : Nat} {pw : Nat → Nat} {f : Nat → Int64} {g h : Nat → Int32} (c : urCw t n W pw f g h) (v : (urRo t n 5 q).1 = 0) : urDp g W (nI (urRc t n q)) ↔ urDa t n W pw q := by
  have b := urRcB v
  constructor
  · rintro ⟨k, hk, e⟩
    have b2 := urRcB (c k hk).1.2
    exact ⟨k, hk, (nI_eq (by omega) (by omega)).mp ((c k hk).2.2.1.symm.trans e)⟩
  · rintro ⟨k, hk, e⟩
    have b2 := urRcB (c k hk).1.2
    exact ⟨k, hk, (c k hk).2.2.1.trans ((nI_eq (by omega) (by omega)).mpr e)⟩
def urCo (t : Nat → Int32) (n O : Nat) (po : Nat → Nat) (on : Nat → Int64) (op oq ow c ac : Nat → Int32) (nm : Nat → Int64) (pl pp nu : Nat → Int32) : Prop := ∀ o, o < O → urKd t n (urAd t n (urAd t n (po o))) = 1 ∧ on o = lN (urNm 32 t n (urAd t n (urAd t n (po o)))) ∧ op o = nI (urAd t n (urAd t n (po o))) ∧ oq o = urOq t n (po o) ∧ ow o = urOt t n (po o) ∧ c o = nI (urAk t n 4 (urOe t n (po o))) ∧ urAk t n 4 (urOe t n (po o)) ≤ 4 ∧ urSs t n (urOe t n (po o)) (o * 4) (urAk t n 4 (urOe t n (po o))) ac nm pl pp nu
theorem urCo0 {t : Nat → Int32} {n : Nat} {po : Nat → Nat} {on : Nat → Int64} {op oq ow c ac : Nat → Int32} {nm : Nat → Int64} {pl pp nu : Nat → Int32} : urCo t n 0 po on op oq ow c ac nm pl pp nu := fun k hk => absurd hk (Nat.not_lt_zero k)
theorem urAkL {t : Nat → Int32} {n : Nat} : ∀ j p, urAk t n j p ≤ j
  | 0, p => Nat.le_refl 0
  | j + 1, p => by
    show 1 + uIte (urKd t n (urAe t n p) = 4) (urAk t n j (urAd t n (urAe t n p))) 0 ≤ j + 1
    have ih := urAkL (t := t) (n := n) j (urAd t n (urAe t n p))
    by_cases c : urKd t n (urAe t n p) = 4
    · rw [uItP c]; omega
    · rw [uItN c]; omega
theorem urCoS {t : Nat → Int32} {n O p : Nat} {po : Nat → Nat} {on on' : Nat → Int64} {op op' oq oq' ow ow' c c1 c' ac ac' : Nat → Int32} {nm nm' : Nat → Int64} {pl pl' pp pp' nu nu' : Nat → Int32} (h : urCo t n O po on op oq ow c ac nm pl pp nu) (v : urKd t n (urAd t n (urAd t n p)) = 1) (s1 : urSet on' on O (lN (urNm 32 t n (urAd t n (urAd t n p))))) (s2 : urSet op' op O (nI (urAd t n (urAd t n p)))) (s3 : urSet oq' oq O (urOq t n p)) (s4 : urSet ow' ow O (urOt t n p)) (s5 : urSet c1 c O 0) (s6 : c' O = nI (urAk t n 4 (urOe t n p))) (s7 : ∀ j, ¬ j = O → c' j = c1 j) (s8 : urSs t n (urOe t n p) (O * 4) (urAk t n 4 (urOe t n p)) ac' nm' pl' pp' nu') (s9 : urFb (O * 4) 4 ac ac' nm nm' pl pl' pp pp' nu nu') : urCo t n (O + 1) (urPu po O p) on' op' oq' ow' c' ac' nm' pl' pp' nu' := by
  intro o ho
  by_cases e : o = O
  · subst e
    rw [urPuS]
    exact ⟨v, s1.1, s2.1, s3.1, s4.1, s6, urAkL _ _, s8⟩
  · rw [urPuN e, s1.2 o e, s2.2 o e, s3.2 o e, s4.2 o e, s7 o e, s5.2 o e]
    obtain ⟨k1, k2, k3, k4, k5, k6, k7, k8⟩ := h o (by omega)
    refine ⟨k1, k2, k3, k4, k5, k6, k7, fun j hj => ?_⟩
    obtain ⟨f1, f2, f3, f4, f5⟩ := s9 (o * 4 + j) (by omega)
    rw [f1, f2, f3, f4, f5]
    exact k8 j hj
/-! the class's state in the midst of the text -/
def urRd (t : Nat → Int32) (n k p W L O : Nat) (mt lt mi lo : Int32) (f : Nat → Int64) (g h : Nat → Int32) (on : Nat → Int64) (op oq ow c ac : Nat → Int32) (nm : Nat → Int64) (pl pp nu : Nat → Int32) : Prop := ∃ pw pz po, urCw t n W pw f g h ∧ urCo t n O po on op oq ow c ac nm pl pp nu ∧ urAl t n k p W L O mt lt mi lo pw pz po = urFin t n
theorem urRd00 {t : Nat → Int32} {n p : Nat} {f : Nat → Int64} {g h : Nat → Int32} {on : Nat → Int64} {op oq ow c ac : Nat → Int32} {nm : Nat → Int64} {pl pp nu : Nat → Int32} (e : p = urTo (urBl t) n 0) : urRd t n n p 0 0 0 0 0 2 1 f g h on op oq ow c ac nm pl pp nu := ⟨fun _ => 0, fun _ => 0, fun _ => 0, urCw0, urCo0, by rw [e]; rfl⟩
section URD
variable {t : Nat → Int32} {n k p q W L O : Nat} {mt lt mi lo : Int32} {f f' : Nat → Int64} {g g' h h' : Nat → Int32} {on on' : Nat → Int64} {op op' oq oq' ow ow' c c1 c' ac ac' : Nat → Int32} {nm nm' : Nat → Int64} {pl pl' pp pp' nu nu' : Nat → Int32} {a b : Int32}
theorem urRdF (s : urRd t n (k + 1) p W L O mt lt mi lo f g h on op oq ow c ac nm pl pp nu) (kd : ¬ urKd t n p = 0) (z : ∀ told dup : Prop, urIs (urLi t n told dup W L O (¬ mt = 0) (¬ lt = 0) p) a b) : urIs (urFin t n).1 a b := by
  obtain ⟨pw, pz, po, s1, s2, s3⟩ := s
  rw [← s3]
  exact urAlF kd (z _ _)
theorem urRd1 (s : urRd t n (k + 1) p W L O mt lt mi lo f g h on op oq ow c ac nm pl pp nu) (kd : ¬ urKd t n p = 0) (ky : urKy t n p = 1) (z : ∀ told dup : Prop, urLi t n told dup W L O (¬ mt = 0) (¬ lt = 0) p = urOk q) : urRd t n k q W (L + 1) O mt lt mi lo f g h on op oq ow c ac nm pl pp nu := by
  obtain ⟨pw, pz, po, s1, s2, s3⟩ := s
  refine ⟨pw, urPu pz L (urAd t n p), po, s1, s2, ?_⟩
  rw [← s3, urAlS kd (z _ _), uItN (by rw [ky]; decide), uItP ky]
theorem urRd2 (s : urRd t n (k + 1) p W L O mt lt mi lo f g h on op oq ow c ac nm pl pp nu) (kd : ¬ urKd t n p = 0) (ky : urKy t n p = 2) (z : ∀ told dup : Prop, urLi t n told dup W L O (¬ mt = 0) (¬ lt = 0) p = urOk q) (e1 : a = 1) (e2 : b = nI (urNu t n (urAd t n p))) : urRd t n k q W L O a lt b lo f g h on op oq ow c ac nm pl pp nu := by
  obtain ⟨pw, pz, po, s1, s2, s3⟩ := s
  refine ⟨pw, pz, po, s1, s2, ?_⟩
  rw [← s3, urAlS kd (z _ _), uItN (by rw [ky]; decide), uItN (by rw [ky]; decide), uItP ky, e1, e2]
theorem urRd3 (s : urRd t n (k + 1) p W L O mt lt mi lo f g h on op oq ow c ac nm pl pp nu) (kd : ¬ urKd t n p = 0) (ky : urKy t n p = 3) (z : ∀ told dup : Prop, urLi t n told dup W L O (¬ mt = 0) (¬ lt = 0) p = urOk q) (e1 : a = 1) (e2 : b = nI (urNu t n (urAd t n p))) : urRd t n k q W L O mt a mi b f g h on op oq ow c ac nm pl pp nu := by
  obtain ⟨pw, pz, po, s1, s2, s3⟩ := s
  refine ⟨pw, pz, po, s1, s2, ?_⟩
  rw [← s3, urAlS kd (z _ _), uItN (by rw [ky]; decide), uItN (by rw [ky]; decide), uItN (by rw [ky]; decide), uItP ky, e1, e2]
theorem urRd4 (s : urRd t n (k + 1) p W L O mt lt mi lo f g h on op oq ow c ac nm pl pp nu) (kd : ¬ urKd t n p = 0) (ky : urKy t n p = 4) (z : ∀ told dup : Prop, urLi t n told dup W L O (¬ mt = 0) (¬ lt = 0) p = urOk q) (v : urKd t n (urAd t n (urAd t n p)) = 1) (s1 : urSet on' on O (lN (urNm 32 t n (urAd t n (urAd t n p))))) (s2 : urSet op' op O (nI (urAd t n (urAd t n p)))) (s3 : urSet oq' oq O (urOq t n p)) (s4 : urSet ow' ow O (urOt t n p)) (s5 : urSet c1 c O 0) (s6 : c' O = nI (urAk t n 4 (urOe t n p))) (s7 : ∀ j, ¬ j = O → c' j = c1 j) (s8 : urSs t n (urOe t n p) (O * 4) (urAk t n 4 (urOe t n p)) ac' nm' pl' pp' nu') (s9 : urFb (O * 4) 4 ac ac' nm nm' pl pl' pp pp' nu nu') : urRd t n k q W L (O + 1) mt lt mi lo f g h on' op' oq' ow' c' ac' nm' pl' pp' nu' := by
  obtain ⟨pw, pz, po, r1, r2, r3⟩ := s
  refine ⟨pw, pz, urPu po O p, r1, urCoS r2 v s1 s2 s3 s4 s5 s6 s7 s8 s9, ?_⟩
  rw [← r3, urAlS kd (z _ _), uItN (by rw [ky]; decide), uItN (by rw [ky]; decide), uItN (by rw [ky]; decide), uItN (by rw [ky]; decide)]
theorem urRd0W {pw : Nat → Nat} (s : urCw t n W pw f g h) : urWd t n (urTd f W (lN (urNm 32 t n (urAd t n p)))) (urDp g W (nI (urRc t n (urAd t n (urAd t n p))))) p = urWd t n (urTa t n W pw (urAd t n p)) (urDa t n W pw (urAd t n (urAd t n p))) p := urWdE (fun v => urTdC s v) (fun v => urDpC s v)
theorem urRd0F (s : urRd t n (k + 1) p W L O mt lt mi lo f g h on op oq ow c ac nm pl pp nu) (kd : ¬ urKd t n p = 0) (ky : urKy t n p = 0) (hW : W < 10) (z : urIs (urTh (urWd t n (urTd f W (lN (urNm 32 t n (urAd t n p)))) (urDp g W (nI (urRc t n (urAd t n (urAd t n p))))) p) (urMar t n 3)) a b) : urIs (urFin t n).1 a b := by
  obtain ⟨pw, pz, po, s1, s2, s3⟩ := s
  rw [← s3]
  refine urAlF kd ?_
  rw [urRd0W s1, ← urBo0 (told := urTa t n W pw (urAd t n p)) (dup := urDa t n W pw (urAd t n (urAd t n p))) (L := L) (O := O) (mt := ¬ mt = 0) (lt := ¬ lt = 0) ky hW] at z
  exact z
theorem urRd0 (s : urRd t n (k + 1) p W L O mt lt mi lo f g h on op oq ow c ac nm pl pp nu) (kd : ¬ urKd t n p = 0) (ky : urKy t n p = 0) (hW : W < 10) (z : urTh (urWd t n (urTd f W (lN (urNm 32 t n (urAd t n p)))) (urDp g W (nI (urRc t n (urAd t n (urAd t n p))))) p) (urMar t n 3) = urOk q) (v : urKd t n (urAd t n p) = 1) (v2 : (urRo t n 5 (urAd t n (urAd t n p))).1 = 0) (t1 : urSet f' f W (lN (urNm 32 t n (urAd t n p)))) (t2 : urSet g' g W (nI (urRc t n (urAd t n (urAd t n p))))) (t3 : urSet h' h W (nI (urRl t n 5 (urAd t n (urAd t n p))))) : urRd t n k q (W + 1) L O mt lt mi lo f' g' h' on op oq ow c ac nm pl pp nu := by
  obtain ⟨pw, pz, po, s1, s2, s3⟩ := s
  rw [urRd0W s1, ← urBo0 (told := urTa t n W pw (urAd t n p)) (dup := urDa t n W pw (urAd t n (urAd t n p))) (L := L) (O := O) (mt := ¬ mt = 0) (lt := ¬ lt = 0) ky hW] at z
  refine ⟨urPu pw W (urAd t n p), pz, po, urCwS s1 v v2 t1 t2 t3, s2, ?_⟩
  rw [← s3, urAlS kd (show urLa t n p W L O mt lt pw = urOk q from z), uItP ky]
end URD
/-- clean so far, or a fault -/
def urRs (y e1 e2 : Int32) (t : Nat → Int32) (n k p W L O : Nat) (mt lt mi lo : Int32) (f : Nat → Int64) (g h : Nat → Int32) (on : Nat → Int64) (op oq ow c ac : Nat → Int32) (nm : Nat → Int64) (pl pp nu : Nat → Int32) : Prop := (y = 1 ∧ urFs e1 e2 ∧ urRd t n k p W L O mt lt mi lo f g h on op oq ow c ac nm pl pp nu) ∨ (y = 0 ∧ urIs (urFin t n).1 e1 e2)
theorem urRs1 {y e1 e2 : Int32} {t : Nat → Int32} {n k p W L O : Nat} {mt lt mi lo : Int32} {f : Nat → Int64} {g h : Nat → Int32} {on : Nat → Int64} {op oq ow c ac : Nat → Int32} {nm : Nat → Int64} {pl pp nu : Nat → Int32} (s : urRs y e1 e2 t n k p W L O mt lt mi lo f g h on op oq ow c ac nm pl pp nu) (c0 : ¬ y = 0) : urFs e1 e2 ∧ urRd t n k p W L O mt lt mi lo f g h on op oq ow c ac nm pl pp nu := by
  rcases s with s | s
  · exact s.2
  · exact absurd s.1 c0
theorem urRs0 {y e1 e2 : Int32} {t : Nat → Int32} {n k p W L O : Nat} {mt lt mi lo : Int32} {f : Nat → Int64} {g h : Nat → Int32} {on : Nat → Int64} {op oq ow c ac : Nat → Int32} {nm : Nat → Int64} {pl pp nu : Nat → Int32} (s : urRs y e1 e2 t n k p W L O mt lt mi lo f g h on op oq ow c ac nm pl pp nu) (c : y = 0) : urIs (urFin t n).1 e1 e2 := by
  rcases s with s | s
  · exact absurd (s.1.symm.trans c) (by decide)
  · exact s.2
/-! words that no line tells -/
noncomputable def urUa (B : Nat → Prop) (Q : Nat → Int32) : Nat → Nat → Int32 × Int32 × Nat
  | 0, _ => urOk 0
  | k + 1, i => uIte (B i) (4, Q i, 0) (urUa B Q k (i + 1))
noncomputable def urUo (T : Nat → Prop) (P : Nat → Int32) (C : Nat → Nat) (B : Nat → Nat → Prop) (Q : Nat → Nat → Int32) : Nat → Nat → Int32 × Int32 × Nat
  | 0, _ => urOk 0
  | k + 1, o => uIte (T o) (4, P o, 0) (urTh (urUa (B o) (Q o) (C o) 0) (fun _ => urUo T P C B Q k (o + 1)))
theorem urUaE {B B' : Nat → Prop} {Q Q' : Nat → Int32} : ∀ k i, (∀ j, i ≤ j → j < i + k → (B j ↔ B' j) ∧ (B j → Q j = Q' j)) → urUa B Q k i = urUa B' Q' k i
  | 0, _, _ => rfl
  | k + 1, i, h => by
    show uIte (B i) (4, Q i, 0) (urUa B Q k (i + 1)) = uIte (B' i) (4, Q' i, 0) (urUa B' Q' k (i + 1))
    obtain ⟨h1, h2⟩ := h i (Nat.le_refl i) (by omega)
    rw [urUaE k (i + 1) (fun j hj hk => h j (by omega) (by omega))]
    by_cases c : B i
    · rw [uItP c, uItP (h1.mp c), h2 c]
    · rw [uItN c, uItN (fun z => c (h1.mpr z))]
theorem urUoE {T T' : Nat → Prop} {P P' : Nat → Int32} {C C' : Nat → Nat} {B B' : Nat → Nat → Prop} {Q Q' : Nat → Nat → Int32} : ∀ k o, (∀ j, o ≤ j → j < o + k → (T j ↔ T' j) ∧ P j = P' j ∧ C j = C' j ∧ (∀ i, i < C j → (B j i ↔ B' j i) ∧ (B j i → Q j i = Q' j i))) → urUo T P C B Q k o = urUo T' P' C' B' Q' k o
  | 0, _, _ => rfl
  | k + 1, o, h => by
    show uIte (T o) (4, P o, 0) (urTh (urUa (B o) (Q o) (C o) 0) (fun _ => urUo T P C B Q k (o + 1))) = uIte (T' o) (4, P' o, 0) (urTh (urUa (B' o) (Q' o) (C' o) 0) (fun _ => urUo T' P' C' B' Q' k (o + 1)))
    obtain ⟨h1, h2, h3, h4⟩ := h o (Nat.le_refl o) (by omega)
    rw [urUoE k (o + 1) (fun j hj hk => h j (by omega) (by omega)), urUaE (C o) 0 (fun j _ hj => h4 j (by omega)), h2, h3]
    by_cases c : T o
    · rw [uItP c, uItP (h1.mp c)]
    · rw [uItN c, uItN (fun z => c (h1.mpr z))]
theorem urUaN {B : Nat → Prop} {Q : Nat → Int32} {C j : Nat} (h : ¬ B j) (hj : j < C) : urUa B Q (C - j) j = urUa B Q (C - (j + 1)) (j + 1) := by
  rw [show C - j = (C - (j + 1)) + 1 by omega]
  exact uItN h
theorem urUaB {B : Nat → Prop} {Q : Nat → Int32} {C j : Nat} (h : B j) (hj : j < C) : urIs (urUa B Q (C - j) j) 4 (Q j) := by
  rw [show C - j = (C - (j + 1)) + 1 by omega]
  have e : urUa B Q (C - (j + 1) + 1) j = (4, Q j, 0) := uItP h
  rw [e]
  exact ⟨rfl, by decide⟩
theorem urUoT {T : Nat → Prop} {P : Nat → Int32} {C : Nat → Nat} {B : Nat → Nat → Prop} {Q : Nat → Nat → Int32} {n j : Nat} (h : T j) (hj : j < n) : urIs (urUo T P C B Q (n - j) j) 4 (P j) := by
  rw [show n - j = (n - (j + 1)) + 1 by omega]
  have e : urUo T P C B Q (n - (j + 1) + 1) j = (4, P j, 0) := uItP h
  rw [e]
  exact ⟨rfl, by decide⟩
theorem urUoA {T : Nat → Prop} {P : Nat → Int32} {C : Nat → Nat} {B : Nat → Nat → Prop} {Q : Nat → Nat → Int32} {n j : Nat} {f g : Int32} (h : ¬ T j) (hj : j < n) (b : urIs (urUa (B j) (Q j) (C j) 0) f g) : urIs (urUo T P C B Q (n - j) j) f g := by
  rw [show n - j = (n - (j + 1)) + 1 by omega]
  show urIs (uIte (T j) (4, P j, 0) (urTh (urUa (B j) (Q j) (C j) 0) (fun _ => urUo T P C B Q (n - (j + 1)) (j + 1)))) f g
  rw [uItN h]
  exact urThI b
theorem urUoN {T : Nat → Prop} {P : Nat → Int32} {C : Nat → Nat} {B : Nat → Nat → Prop} {Q : Nat → Nat → Int32} {n j : Nat} (h : ¬ T j) (hj : j < n) (b : urUa (B j) (Q j) (C j) 0 = urOk 0) : urUo T P C B Q (n - j) j = urUo T P C B Q (n - (j + 1)) (j + 1) := by
  rw [show n - j = (n - (j + 1)) + 1 by omega]
  show uIte (T j) (4, P j, 0) (urTh (urUa (B j) (Q j) (C j) 0) (fun _ => urUo T P C B Q (n - (j + 1)) (j + 1))) = _
  rw [uItN h, urThE b]
/-- the last: which words no line tells, by the text alone -/
noncomputable def urUz (t : Nat → Int32) (n W O : Nat) (pw po : Nat → Nat) : Int32 × Int32 × Nat := urUo (fun o => ¬ urTa t n W pw (urAd t n (urAd t n (po o)))) (fun o => nI (urAd t n (urAd t n (po o)))) (fun o => urAk t n 4 (urOe t n (po o))) (fun o i => urKy t n (urAp t n (urOe t n (po o)) i) = 8 ∧ ¬ urTa t n W pw (urAd t n (urAp t n (urOe t n (po o)) i))) (fun o i => nI (urAd t n (urAp t n (urOe t n (po o)) i))) O 0
noncomputable def urRes (t : Nat → Int32) (n : Nat) : Int32 × Int32 × Nat := urTh (urFin t n).1 (fun _ => urUz t n (urFin t n).2.1.1 (urFin t n).2.1.2.2 (urFin t n).2.2.2.1 (urFin t n).2.2.2.2.2)
/-- the class's search is the text's -/
noncomputable def urUc (f : Nat → Int64) (W O : Nat) (on : Nat → Int64) (op c ac : Nat → Int32) (nm : Nat → Int64) (pl : Nat → Int32) : Int32 × Int32 × Nat := urUo (fun o => ¬ urTd f W (on o)) (fun o => op o) (fun o => uN (c o)) (fun o i => ac (o * 4 + i) = 8 ∧ ¬ urTd f W (nm (o * 4 + i))) (fun o i => pl (o * 4 + i)) O 0
theorem urUcE {t : Nat → Int32} {n W O : Nat} {pw po : Nat → Nat} {f : Nat → Int64} {g h : Nat → Int32} {on : Nat → Int64} {op oq ow c ac : Nat → Int32} {nm : Nat → Int64} {pl pp nu : Nat → Int32} (w : urCw t n W pw f g h) (s : urCo t n O po on op oq ow c ac nm pl pp nu) : urUc f W O on op c ac nm pl = urUz t n W O pw po := by
  refine urUoE O 0 (fun j _ hj => ?_)
  obtain ⟨k1, k2, k3, k4, k5, k6, k7, k8⟩ := s j (by omega)
  refine ⟨?_, k3, ?_, fun i hi => ?_⟩
  · show ¬ urTd f W (on j) ↔ _
    rw [k2, urTdC w k1]
  · show uN (c j) = _
    exact uNe (by omega) k6
  · have hi : i < uN (c j) := hi
    rw [uNe (by omega) k6] at hi
    obtain ⟨a1, a2, a3⟩ := k8 i hi
    constructor
    · show (ac (j * 4 + i) = 8 ∧ ¬ urTd f W (nm (j * 4 + i))) ↔ _
      constructor
      · rintro ⟨z1, z2⟩
        have z3 := a1.symm.trans z1
        obtain ⟨b1, b2, b3, b4⟩ := a2 z3
        rw [b1, urTdC w b4] at z2
        exact ⟨z3, z2⟩
      · rintro ⟨z1, z2⟩
        obtain ⟨b1, b2, b3, b4⟩ := a2 z1
        rw [← urTdC w b4, ← b1] at z2
        exact ⟨a1.trans z1, z2⟩
    · rintro ⟨z1, z2⟩
      exact (a2 (a1.symm.trans z1)).2.1
/-- at the text's end -/
theorem urRdE {t : Nat → Int32} {n k p W L O : Nat} {mt lt mi lo : Int32} {f : Nat → Int64} {g h : Nat → Int32} {on : Nat → Int64} {op oq ow c ac : Nat → Int32} {nm : Nat → Int64} {pl pp nu : Nat → Int32} (s : urRd t n k p W L O mt lt mi lo f g h on op oq ow c ac nm pl pp nu) (e : k = 0 ∨ urKd t n p = 0) : ∃ pw pz po, urCw t n W pw f g h ∧ urCo t n O po on op oq ow c ac nm pl pp nu ∧ urFin t n = (urOk p, (W, L, O), (mi, lo), pw, pz, po) := by
  obtain ⟨pw, pz, po, s1, s2, s3⟩ := s
  refine ⟨pw, pz, po, s1, s2, ?_⟩
  rw [← s3]
  rcases e with e | e
  · rw [e]; rfl
  · exact urAlE e
theorem urRdR {t : Nat → Int32} {n k p W L O : Nat} {mt lt mi lo : Int32} {f : Nat → Int64} {g h : Nat → Int32} {on : Nat → Int64} {op oq ow c ac : Nat → Int32} {nm : Nat → Int64} {pl pp nu : Nat → Int32} (s : urRd t n k p W L O mt lt mi lo f g h on op oq ow c ac nm pl pp nu) (e : k = 0 ∨ urKd t n p = 0) : urRes t n = urUc f W O on op c ac nm pl ∧ (urFin t n).2.1 = (W, L, O) ∧ (urFin t n).2.2.1 = (mi, lo) := by
  obtain ⟨pw, pz, po, s1, s2, s3⟩ := urRdE s e
  refine ⟨?_, by rw [s3], by rw [s3]⟩
  unfold urRes
  rw [s3, urThO]
  exact (urUcE s1 s2).symm
theorem urResF {t : Nat → Int32} {n : Nat} {f g : Int32} (h : urIs (urFin t n).1 f g) : urIs (urRes t n) f g := urThI h
/-! the model's token: what its sort says -/
theorem urTmSo {t : Nat → Int32} {n p a : Nat} {so va : Int32} {nm : Int64} (h : urTm t n p a so va nm) : (so = 0 ↔ urKd t n p = 1) ∧ (so = 1 ↔ urKd t n p = 2) ∧ (so = 2 ↔ (urKd t n p = 3 ∨ urKd t n p = 4)) ∧ (so = 3 ↔ urKd t n p = 0) := by
  have q := urSoE (urKd5 (t := t) (n := n) (p := p))
  rw [← h.2.1] at q
  exact q
theorem urTmV {t : Nat → Int32} {n p a : Nat} {so va : Int32} {nm : Int64} (h : urTm t n p a so va nm) (k : so = 1) : ∃ v : Nat, v ≤ 100000 ∧ va = nI v ∧ min v 1000 = urNu t n p := h.2.2.2.1 ((urTmSo h).2.1.mp k)
theorem urNmM1 {t : Nat → Int32} {n p a lo hi : Nat} {so va : Int32} {nm : Int64} (h : urTm t n p a so va nm) (c : ¬ so = 1) : urIs (urNum t n lo hi p) 1 (nI p) := by
  rw [urNum1 (fun z => c ((urTmSo h).2.1.mpr z))]
  exact urIsB (by decide)
theorem urNmM2 {t : Nat → Int32} {n p a lo hi : Nat} {so va : Int32} {nm : Int64} (h : urTm t n p a so va nm) (k : so = 1) (hl : lo < 1000) (hh : hi < 1000) (c : va < nI lo ∨ ¬ va ≤ nI hi) : urIs (urNum t n lo hi p) 2 (nI p) := by
  obtain ⟨v, v1, v2, v3⟩ := urTmV h k
  have d : v < lo ∨ hi < v := by
    rw [v2] at c
    rcases c with c | c
    · exact Or.inl ((nI_ltI (by omega) (by omega)).mp c)
    · by_cases z : hi < v
      · exact Or.inr z
      · exact absurd ((nI_leI (by omega) (by omega)).mpr (show v ≤ hi by omega)) c
  rw [urNum2 ((urTmSo h).2.1.mp k) (by omega)]
  exact urIsB (by decide)
theorem urNmM3 {t : Nat → Int32} {n p a q lo hi : Nat} {so va : Int32} {nm : Int64} (h : urTm t n p a so va nm) (k : so = 1) (hl : lo < 1000) (hh : hi < 1000) (c : ¬ va < nI lo) (d : va ≤ nI hi) (e : q = urAd t n p) : urNum t n lo hi p = urOk q ∧ va = nI (urNu t n p) := by
  obtain ⟨v, v1, v2, v3⟩ := urTmV h k
  rw [v2] at c d
  have d2 : v ≤ hi := (nI_leI (by omega) (by omega)).mp d
  have c2 : lo ≤ v := by
    by_cases z : v < lo
    · exact absurd ((nI_ltI (by omega) (by omega)).mpr z) c
    · omega
  have e3 : v = urNu t n p := by omega
  refine ⟨?_, by rw [v2, e3]⟩
  rw [urNum3 ((urTmSo h).2.1.mp k) (by omega), e]
theorem urNaM1 {t : Nat → Int32} {n p a : Nat} {so va : Int32} {nm : Int64} (h : urTm t n p a so va nm) (c : ¬ so = 0 ∨ ¬ va = -1) : urIs (urNam t n p) 1 (nI p) := by
  rw [urNam1 (by
    rintro ⟨q1, q2⟩
    rcases c with c | c
    · exact c ((urTmSo h).1.mpr q1)
    · exact c ((h.2.2.1 q1).1.trans q2))]
  exact urIsB (by decide)
theorem urNaM2 {t : Nat → Int32} {n p a q : Nat} {so va : Int32} {nm : Int64} (h : urTm t n p a so va nm) (k : so = 0) (c : va = -1) (e : q = urAd t n p) : urNam t n p = urOk q ∧ urKd t n p = 1 ∧ nm = lN (urNm 27 t n p) := by
  have kd := (urTmSo h).1.mp k
  have z := h.2.2.1 kd
  exact ⟨by rw [urNam2 ⟨kd, z.1.symm.trans c⟩, e], kd, z.2⟩
/-- the model's token is this reserved word -/
theorem urTmK {t : Nat → Int32} {n p a : Nat} {so va w : Int32} {nm : Int64} (h : urTm t n p a so va nm) (k : so = 0) (c : va = w) : urKy t n p = w := (h.2.2.1 ((urTmSo h).1.mp k)).1.symm.trans c
theorem urTmKN {t : Nat → Int32} {n p a : Nat} {so va w : Int32} {nm : Int64} (h : urTm t n p a so va nm) (hw : ¬ w = -1) (c : ¬ so = 0 ∨ ¬ va = w) : ¬ urKy t n p = w := by
  intro z
  by_cases kd : urKd t n p = 1
  · rcases c with c | c
    · exact c ((urTmSo h).1.mpr kd)
    · exact c ((h.2.2.1 kd).1.trans z)
  · rw [urKyN kd] at z
    exact hw z.symm
/-- a step of the model: a fault that was stays, else a fault is set or the piece is read -/
def urMo (R : Int32 × Int32 × Nat) (f g f' g' : Int32) (p' : Nat) : Prop := (¬ f = 0 → f' = f ∧ g' = g) ∧ (f = 0 → urIs R f' g' ∨ (f' = 0 ∧ g' = g ∧ R = urOk p'))
theorem urMoX {R : Int32 × Int32 × Nat} {f g : Int32} {p' : Nat} (h : ¬ f = 0) : urMo R f g f g p' := ⟨fun _ => ⟨rfl, rfl⟩, fun k => absurd k h⟩
theorem urMoB {R : Int32 × Int32 × Nat} {f g f' g' : Int32} {p' : Nat} (h : f = 0) (b : urIs R f' g') : urMo R f g f' g' p' := ⟨fun k => absurd h k, fun _ => Or.inl b⟩
theorem urMoO {R : Int32 × Int32 × Nat} {f g f' g' : Int32} {p' : Nat} (h : f = 0) (k : f' = 0) (e : g' = g) (b : R = urOk p') : urMo R f g f' g' p' := ⟨fun z => absurd h z, fun _ => Or.inr ⟨k, e, b⟩⟩
theorem urMoT {R : Int32 × Int32 × Nat} {K : Nat → Int32 × Int32 × Nat} {f g f1 g1 f2 g2 : Int32} {p1 p2 : Nat} (a : urMo R f g f1 g1 p1) (b : urMo (K p1) f1 g1 f2 g2 p2) : urMo (urTh R K) f g f2 g2 p2 := by
  constructor
  · intro h
    obtain ⟨a1, a2⟩ := a.1 h
    rw [← a1] at h
    obtain ⟨b1, b2⟩ := b.1 h
    exact ⟨b1.trans a1, b2.trans a2⟩
  · intro h
    rcases a.2 h with a | ⟨a1, a2, a3⟩
    · have z : ¬ f1 = 0 := a.2
      obtain ⟨b1, b2⟩ := b.1 z
      rw [b1, b2]
      exact Or.inl (urThI a)
    · rw [a3, urThO]
      rcases b.2 a1 with b | ⟨b1, b2, b3⟩
      · exact Or.inl b
      · exact Or.inr ⟨b1, b2.trans a2, b3⟩
/-- stops here: a fault that stays whatever would come -/
theorem urMoF {R : Int32 × Int32 × Nat} {K : Nat → Int32 × Int32 × Nat} {f g f1 g1 : Int32} {p1 p2 : Nat} (a : urMo R f g f1 g1 p1) (h : ¬ f1 = 0) : urMo (urTh R K) f g f1 g1 p2 := urMoT a (urMoX h)
/-- a fault is told -/
def urWa (f g f' g' : Int32) (k : Nat) (w : Int32) : Prop := (¬ f = 0 → f' = f ∧ g' = g) ∧ (f = 0 → f' = nI k ∧ g' = w)
theorem urWaI {f g f' g' : Int32} {k p : Nat} {R : Int32 × Int32 × Nat} (a : urWa f g f' g' k (nI p)) (h : f = 0) (b : urIs R (nI k) (nI p)) : urIs R f' g' := by
  obtain ⟨a1, a2⟩ := a.2 h
  rw [a1, a2]
  exact b
/-! the reserved words, as the model looks for them -/
def urKc (k i : Nat) : Bool := decide (urCh (urKs k + i) = 32) == decide (i = urKl k)
set_option maxRecDepth 100000 in
theorem urKc0 : ∀ k : Nat, k < 13 → ∀ i : Nat, i < urKl k + 1 → urKc k i = true := by decide +kernel
theorem urKc1 {k i : Nat} (hk : k < 13) (hi : i ≤ urKl k) : urCh (urKs k + i) = 32 ↔ i = urKl k := by
  have q := urKc0 k hk i (by omega)
  unfold urKc at q
  have q := beq_iff_eq.mp q
  exact decide_eq_decide.mp q
set_option maxRecDepth 100000 in
theorem urKs1 : ∀ k : Nat, k < 13 → (urKs (k + 1) = urKs k + urKl k + 1 ∧ urKs k + urKl k < 65) := by decide +kernel
theorem urKsE {k : Nat} (hk : k ≤ 13) (h : ¬ urKs k < 65) : k = 13 := by
  by_cases c : k < 13
  · have q := urKs1 k c
    omega
  · omega
/-- the first i letters are those of word k -/
def urPm (t : Nat → Int32) (p k i : Nat) : Prop := i ≤ urKl k ∧ ∀ j, j < i → t (p + j) = urCh (urKs k + j)
theorem urPm0 {t : Nat → Int32} {p k : Nat} : urPm t p k 0 := ⟨Nat.zero_le _, fun j h => absurd h (Nat.not_lt_zero j)⟩
theorem urPmS {t : Nat → Int32} {p k i : Nat} (hk : k < 13) (h : urPm t p k i) (c : ¬ urCh (urKs k + i) = 32) (e : t (p + i) = urCh (urKs k + i)) : urPm t p k (i + 1) := by
  have z : ¬ i = urKl k := fun q => c ((urKc1 hk h.1).mpr q)
  have z2 := h.1
  refine ⟨by omega, fun j hj => ?_⟩
  by_cases d : j = i
  · rw [d]; exact e
  · exact h.2 j (by omega)
theorem urPmY {t : Nat → Int32} {p k i l : Nat} (hk : k < 13) (h : urPm t p k i) (c : urCh (urKs k + i) = 32) (e : l = i) : urMt t p l k := by
  subst e
  exact ⟨(urKc1 hk h.1).mp c, h.2⟩
theorem urPmN1 {t : Nat → Int32} {p k i l : Nat} (hk : k < 13) (h : urPm t p k i) (c : urCh (urKs k + i) = 32) (e : ¬ l = i) : ¬ urMt t p l k := fun q => e (q.1.trans ((urKc1 hk h.1).mp c).symm)
theorem urPmN2 {t : Nat → Int32} {p k i l : Nat} (hk : k < 13) (h : urPm t p k i) (c : ¬ urCh (urKs k + i) = 32) (e : l ≤ i) : ¬ urMt t p l k := by
  intro q
  have z : ¬ i = urKl k := fun d => c ((urKc1 hk h.1).mpr d)
  have z2 := h.1
  have z3 := q.1
  omega
theorem urPmN3 {t : Nat → Int32} {p k i l : Nat} (hk : k < 13) (h : urPm t p k i) (c : ¬ urCh (urKs k + i) = 32) (hl : i < l) (e : ¬ t (p + i) = urCh (urKs k + i)) : ¬ urMt t p l k := fun q => e (q.2 i hl)
def urNo (t : Nat → Int32) (p l n : Nat) : Prop := ∀ k, k < n → ¬ urMt t p l k
theorem urNo0 {t : Nat → Int32} {p l : Nat} : urNo t p l 0 := fun k h => absurd h (Nat.not_lt_zero k)
theorem urNoS {t : Nat → Int32} {p l n : Nat} (h : urNo t p l n) (c : ¬ urMt t p l n) : urNo t p l (n + 1) := by
  intro k hk
  by_cases e : k = n
  · rw [e]; exact c
  · exact h k (by omega)
/-- along the word to the blank behind it -/
theorem urKsS {n k : Nat} (hn : n < 13) (h : urKs n ≤ k ∧ k ≤ urKs n + urKl n) (c : ¬ urCh k = 32) : k + 1 ≤ urKs n + urKl n := by
  have z : ¬ k - urKs n = urKl n := fun q => c (by
    have w := (urKc1 hn (show k - urKs n ≤ urKl n by omega)).mpr q
    rw [show urKs n + (k - urKs n) = k by omega] at w
    exact w)
  omega
theorem urKsB {n k : Nat} (hn : n < 13) (h : urKs n ≤ k ∧ k ≤ urKs n + urKl n) (c : urCh k = 32) : k + 1 = urKs (n + 1) := by
  have w := (urKc1 hn (show k - urKs n ≤ urKl n by omega)).mp (by rw [show urKs n + (k - urKs n) = k by omega]; exact c)
  have q := (urKs1 n hn).1
  omega
theorem urKsL {n : Nat} (h : n ≤ 13) (k : urKs n < 65) : n < 13 := by
  by_cases c : n = 13
  · rw [c] at k; exact absurd k (by decide)
  · omega
theorem urN59 {a : Nat} (h : a < 2 ^ 31) (k : ¬ a = 59) : ¬ nI a = (59 : Int32) := fun q => k ((nI_eq (b := 59) h (by decide)).mp q)
theorem urN44 {a : Nat} (h : a < 2 ^ 31) (k : ¬ a = 44) : ¬ nI a = (44 : Int32) := fun q => k ((nI_eq (b := 44) h (by decide)).mp q)
theorem urWaX {f g : Int32} {k : Nat} {w : Int32} (h : ¬ f = 0) : urWa f g f g k w := ⟨fun _ => ⟨rfl, rfl⟩, fun z => absurd z h⟩
theorem urWaY {f g : Int32} {k : Nat} {w : Int32} (h : f = 0) : urWa f g (nI k) w k w := ⟨fun z => absurd h z, fun _ => ⟨rfl, rfl⟩⟩
theorem urKyB {t : Nat → Int32} {n p : Nat} {k : Int32} (h : ¬ urKy t n p = k) : urIs (urKey t n k p) 1 (nI p) := by
  rw [urKey1 h]
  exact urIsB (by decide)
theorem urKyO {t : Nat → Int32} {n p q : Nat} {k : Int32} (h : urKy t n p = k) (e : q = urAd t n p) : urKey t n k p = urOk q := by rw [urKey2 h, e]
theorem urNmM4 {t : Nat → Int32} {n p a q lo hi : Nat} {so va : Int32} {nm : Int64} (h : urTm t n p a so va nm) (k : so = 1) (hl : lo < 1000) (hh : hi < 1000) (c : ¬ va < nI lo) (d : va ≤ nI hi) (e : q = urAd t n p) : urNum t n lo hi p = urOk q ∧ va = nI (urNu t n p) ∧ lo ≤ urNu t n p ∧ urNu t n p ≤ hi := by
  obtain ⟨z1, z2⟩ := urNmM3 h k hl hh c d e
  have z3 := urNumO z1
  exact ⟨z1, z2, z3.2.1.1, z3.2.1.2⟩
/-! the model's words -/
def urTf9 (f : Nat → Int64) (b W : Nat) (x : Int64) : Prop := ∃ k, k < W ∧ f (b + k) = x
def urNf (f : Nat → Int64) (b : Nat) (x : Int64) (j : Nat) : Prop := ∀ k, k < j → ¬ f (b + k) = x
theorem urNf0 {f : Nat → Int64} {b : Nat} {x : Int64} : urNf f b x 0 := fun k h => absurd h (Nat.not_lt_zero _)
theorem urNfS {f : Nat → Int64} {b : Nat} {x : Int64} {j : Nat} (h : urNf f b x j) (c : ¬ f (b + j) = x) : urNf f b x (j + 1) := by
  intro k hk
  by_cases e : k = j
  · rw [e]; exact c
  · exact h k (by omega)
theorem urNfN {f : Nat → Int64} {b W j : Nat} {x : Int64} (hj : W ≤ j) (h : urNf f b x j) : ¬ urTf9 f b W x := by rintro ⟨k, hk, e⟩; exact h k (by omega) e
/-- two rows of S, as the model holds them, are the same -/
def urSm (L S : Nat → Int32) (a b : Nat) : Prop := L a = L b ∧ ∀ i : Nat, (i : Int) < (L a).toInt → S (5 * a + i) = S (5 * b + i)
def urSj (S : Nat → Int32) (a b j : Nat) : Prop := ∀ i, i < j → S (5 * a + i) = S (5 * b + i)
theorem urSj0 {S : Nat → Int32} {a b : Nat} : urSj S a b 0 := fun i h => absurd h (Nat.not_lt_zero i)
theorem urSjS {S : Nat → Int32} {a b j : Nat} (h : urSj S a b j) (c : S (5 * a + j) = S (5 * b + j)) : urSj S a b (j + 1) := by
  intro i hi
  by_cases e : i = j
  · rw [e]; exact c
  · exact h i (by omega)
theorem urSmY {L S : Nat → Int32} {a b j n : Nat} (e : L a = L b) (e1 : L a = nI n) (hn : n < 2 ^ 31) (hj : n ≤ j) (h : urSj S a b j) : urSm L S a b := by
  refine ⟨e, fun i hi => h i ?_⟩
  rw [e1, nI_toInt hn] at hi
  omega
theorem urSmN {L S : Nat → Int32} {a b j n : Nat} (e1 : L a = nI n) (hn : n < 2 ^ 31) (hj : j < n) (c : ¬ S (5 * a + j) = S (5 * b + j)) : ¬ urSm L S a b := fun h => c (h.2 j (by rw [e1, nI_toInt hn]; omega))
/-- some told row is that of the text at q -/
def urDm (L S : Nat → Int32) (W : Nat) (t : Nat → Int32) (n q : Nat) : Prop := ∃ k, k < W ∧ L (10 + k) = nI (urRl t n 5 q) ∧ ∀ i, i < urRl t n 5 q → S (5 * (10 + k) + i) = nI (urSg t n q i)
/-- the row being read: c signs of it stand at w, all before w stays -/
def urRw (L L' S S' : Nat → Int32) (t : Nat → Int32) (n q w c : Nat) : Prop := L' w = nI c ∧ (∀ k, ¬ k = w → L' k = L k) ∧ (∀ k, k < 5 * w → S' k = S k) ∧ ∀ i, i < c → S' (5 * w + i) = nI (urSg t n q i)
theorem urRw0 {L S : Nat → Int32} {t : Nat → Int32} {n q w : Nat} : urRw L (upd L w 0) S S t n q w 0 := ⟨by rw [pk_us]; rfl, fun k h => pk_un h, fun _ _ => rfl, fun i h => absurd h (Nat.not_lt_zero i)⟩
theorem urRwS {L L' S S' : Nat → Int32} {t : Nat → Int32} {n q w c p v : Nat} (h : urRw L L' S S' t n q w c) (r : urRi t n q c p) (e : v = urNu t n p) : urRw L (upd L' w (nI (c + 1))) S (upd S' (5 * w + c) (nI v)) t n q w (c + 1) := by
  obtain ⟨h1, h2, h3, h4⟩ := h
  refine ⟨pk_us, fun k hk => (pk_un hk).trans (h2 k hk), fun k hk => (pk_un (by omega)).trans (h3 k hk), fun i hi => ?_⟩
  by_cases d : i = c
  · subst d
    rw [pk_us]
    unfold urSg
    rw [← r.1, e]
  · rw [pk_un (by omega)]
    exact h4 i (by omega)
theorem urRwD {L L' S S' : Nat → Int32} {t : Nat → Int32} {n q w c k : Nat} (h : urRw L L' S S' t n q w c) (hc : c ≤ 5) (hk : k < w) : urSm L' S' k w ↔ (L k = nI c ∧ ∀ i, i < c → S (5 * k + i) = nI (urSg t n q i)) := by
  obtain ⟨h1, h2, h3, h4⟩ := h
  have z : (nI c).toInt = (c : Int) := nI_toInt (by omega)
  constructor
  · rintro ⟨a1, a2⟩
    rw [h2 k (by omega), h1] at a1
    refine ⟨a1, fun i hi => ?_⟩
    rw [← h3 (5 * k + i) (by omega), a2 i (by rw [h2 k (by omega), a1, z]; omega), h4 i hi]
  · rintro ⟨a1, a2⟩
    refine ⟨by rw [h2 k (by omega), h1, a1], fun i hi => ?_⟩
    rw [h2 k (by omega), a1, z] at hi
    rw [h3 (5 * k + i) (by omega), h4 i (by omega)]
    exact a2 i (by omega)
/-- the search for the same row: none so far, or the fault is told -/
def urDw (g f' g' : Int32) (L S : Nat → Int32) (w fst k : Nat) : Prop := (f' = 0 ∧ g' = g ∧ ∀ j, j < k → ¬ urSm L S (10 + j) w) ∨ (f' = 3 ∧ g' = nI fst ∧ ∃ j, j < k ∧ urSm L S (10 + j) w)
theorem urDw0 {g f' g' : Int32} {L S : Nat → Int32} {w fst : Nat} (h : f' = 0) (e : g' = g) : urDw g f' g' L S w fst 0 := Or.inl ⟨h, e, fun j hj => absurd hj (Nat.not_lt_zero j)⟩
theorem urDwN {g f' g' : Int32} {L S : Nat → Int32} {w fst k : Nat} (h : urDw g f' g' L S w fst k) (c : ¬ urSm L S (10 + k) w) : urDw g f' g' L S w fst (k + 1) := by
  rcases h with ⟨h1, h2, h3⟩ | ⟨h1, h2, j, h3, h4⟩
  · refine Or.inl ⟨h1, h2, fun j hj => ?_⟩
    by_cases e : j = k
    · rw [e]; exact c
    · exact h3 j (by omega)
  · exact Or.inr ⟨h1, h2, j, by omega, h4⟩
theorem urDwY {g f' g' f2 g2 : Int32} {L S : Nat → Int32} {w fst k : Nat} (h : urDw g f' g' L S w fst k) (c : urSm L S (10 + k) w) (a : urWa f' g' f2 g2 3 (nI fst)) : urDw g f2 g2 L S w fst (k + 1) := by
  rcases h with ⟨h1, h2, h3⟩ | ⟨h1, h2, j, h3, h4⟩
  · obtain ⟨a1, a2⟩ := a.2 h1
    exact Or.inr ⟨a1, a2, k, by omega, c⟩
  · obtain ⟨a1, a2⟩ := a.1 (by rw [h1]; decide)
    exact Or.inr ⟨a1.trans h1, a2.trans h2, j, by omega, h4⟩
/-- a word's line behind 'word' -/
noncomputable def urWq (t : Nat → Int32) (n : Nat) (told dup : Prop) (p : Nat) : Int32 × Int32 × Nat := urTh (urNam t n p) (fun q => uIte told (urBd 3 p) (urTh (urRo t n 5 q) (fun e => uIte dup (urBd 3 q) (urOk e))))
theorem urWqT {t : Nat → Int32} {n p q : Nat} {told dup : Prop} (m : urNam t n p = urOk q) (c : told) : urWq t n told dup p = urBd 3 p := by
  unfold urWq
  rw [urThE m, uItP c]
theorem urWqA {t : Nat → Int32} {n p : Nat} {told dup : Prop} {f g : Int32} (h : urIs (urNam t n p) f g) : urIs (urWq t n told dup p) f g := urThI h
theorem urWqR {t : Nat → Int32} {n p q : Nat} {told dup : Prop} {f g : Int32} (m : urNam t n p = urOk q) (c : ¬ told) (h : urIs (urRo t n 5 q) f g) : urIs (urWq t n told dup p) f g := by
  unfold urWq
  rw [urThE m, uItN c]
  exact urThI h
theorem urWqD {t : Nat → Int32} {n p q e : Nat} {told dup : Prop} (m : urNam t n p = urOk q) (c : ¬ told) (h : urRo t n 5 q = urOk e) (d : dup) : urIs (urWq t n told dup p) 3 (nI q) := by
  unfold urWq
  rw [urThE m, uItN c, urThE h, uItP d]
  exact urIsB (by decide)
theorem urWqO {t : Nat → Int32} {n p q e : Nat} {told dup : Prop} (m : urNam t n p = urOk q) (c : ¬ told) (h : urRo t n 5 q = urOk e) (d : ¬ dup) : urWq t n told dup p = urOk e := by
  unfold urWq
  rw [urThE m, uItN c, urThE h, uItN d]
theorem uNI {a : Nat} (h : a < 2 ^ 31) : uN (nI a) = a := uNe h rfl
/-- what a clean word's line leaves -/
def urMw (t : Nat → Int32) (n p W : Nat) (N N' : Nat → Int64) (L L' S S' w' : Nat → Int32) : Prop := urSet N' N (10 + W) (lN (urNm 27 t n p)) ∧ urRw L L' S S' t n (urAd t n p) (10 + W) (urRl t n 5 (urAd t n p)) ∧ w' 1 = nI (W + 1) ∧ urKd t n p = 1 ∧ (urRo t n 5 (urAd t n p)).1 = 0
/-- the rules in force stay -/
def urFr0 (N N' : Nat → Int64) (L L' S S' : Nat → Int32) : Prop := (∀ k, k < 10 → N' k = N k ∧ L' k = L k) ∧ ∀ k, k < 50 → S' k = S k
theorem urFr0I {N N' : Nat → Int64} {L L' S S' : Nat → Int32} {t : Nat → Int32} {n q w c : Nat} {x : Int64} (hw : 10 ≤ w) (h : urRw L L' S S' t n q w c) (s : urSet N' N w x) : urFr0 N N' L L' S S' := ⟨fun k hk => ⟨s.2 k (by omega), h.2.1 k (by omega)⟩, fun k hk => h.2.2.1 k (by omega)⟩
theorem urDwC {g f' g' : Int32} {L L' S S' t : Nat → Int32} {n q W c fst k : Nat} (h : urDw g f' g' L' S' (10 + W) fst k) (hk : W ≤ k) (hk2 : k ≤ W) (r : urRw L L' S S' t n q (10 + W) c) (hc : urRl t n 5 q = c) (h5 : c ≤ 5) : (f' = 0 ∧ g' = g ∧ ¬ urDm L S W t n q) ∨ (f' = 3 ∧ g' = nI fst ∧ urDm L S W t n q) := by
  have e : k = W := by omega
  subst e
  rcases h with ⟨h1, h2, h3⟩ | ⟨h1, h2, j, h3, h4⟩
  · refine Or.inl ⟨h1, h2, ?_⟩
    rintro ⟨j, hj, a1, a2⟩
    rw [hc] at a1 a2
    exact h3 j hj ((urRwD r h5 (by omega)).mpr ⟨a1, a2⟩)
  · have z := (urRwD r h5 (by omega)).mp h4
    exact Or.inr ⟨h1, h2, j, h3, by rw [hc]; exact z.1, by rw [hc]; exact z.2⟩
theorem uNo1 : uN (1 : Int32) = 1 := by decide
/-! the model's acts -/
noncomputable def urKM (t : Nat → Int32) (n a : Nat) : Int32 := uIte (urKy t n a = 7) 0 (uIte (urKy t n a = 8) 1 (uIte (urKy t n a = 10) 2 3))
theorem urKM7 {t : Nat → Int32} {n a : Nat} (h : urKy t n a = 7) : (0 : Int32) = urKM t n a := by unfold urKM; rw [uItP h]
theorem urKM8 {t : Nat → Int32} {n a : Nat} (h : urKy t n a = 8) : (1 : Int32) = urKM t n a := by unfold urKM; rw [uItN (by rw [h]; decide), uItP h]
theorem urKM10 {t : Nat → Int32} {n a : Nat} (h : urKy t n a = 10) : (2 : Int32) = urKM t n a := by unfold urKM; rw [uItN (by rw [h]; decide), uItN (by rw [h]; decide), uItP h]
theorem urKM11 {t : Nat → Int32} {n a : Nat} (h : urKy t n a = 11) : (3 : Int32) = urKM t n a := by unfold urKM; rw [uItN (by rw [h]; decide), uItN (by rw [h]; decide), uItN (by rw [h]; decide)]
theorem urKM1 {t : Nat → Int32} {n a : Nat} : urKM t n a = 1 ↔ urKy t n a = 8 := by
  constructor
  · intro h
    unfold urKM at h
    by_cases c : urKy t n a = 7
    · rw [uItP c] at h; exact absurd h (by decide)
    · rw [uItN c] at h
      by_cases d : urKy t n a = 8
      · exact d
      · rw [uItN d] at h
        by_cases e : urKy t n a = 10
        · rw [uItP e] at h; exact absurd h (by decide)
        · rw [uItN e] at h; exact absurd h (by decide)
  · intro h
    exact (urKM8 h).symm
def urSlM (t : Nat → Int32) (n a : Nat) (kd : Int32) (nm : Int64) (pl to wt : Int32) : Prop := kd = urKM t n a ∧ (urKy t n a = 8 → nm = lN (urNm 27 t n (urAd t n a)) ∧ pl = nI (urAd t n a) ∧ to = urTp t n (urAd t n a) ∧ urKd t n (urAd t n a) = 1) ∧ (urKy t n a = 10 → wt = nI (urNu t n (urAd t n a)))
theorem urAaB1 {t : Nat → Int32} {n c p : Nat} (k : ¬ urIa (urKy t n p)) : urIs (urAa t n c p) 1 (nI p) := by
  unfold urAa
  rw [uItN k]
  exact urIsB (by decide)
theorem urAaB2 {t : Nat → Int32} {n c p : Nat} (k : urIa (urKy t n p)) (d : ¬ c < 4) : urIs (urAa t n c p) 2 (nI p) := by
  unfold urAa
  rw [uItP k, uItN d]
  exact urIsB (by decide)
theorem urAaC {t : Nat → Int32} {n c p : Nat} (k : urIa (urKy t n p)) (d : c < 4) : urAa t n c p = urAb t n p := by
  unfold urAa
  rw [uItP k, uItP d]
theorem urAbO2 {t : Nat → Int32} {n p q : Nat} (k : ¬ urKy t n p = 10) (k2 : ¬ urKy t n p = 8) (e : q = urAd t n p) : urAb t n p = urOk q := by
  unfold urAb
  rw [uItN k, uItN k2, e]
theorem urAbW2 {t : Nat → Int32} {n p q : Nat} (k : urKy t n p = 10) (e : q = urAd t n p) : urAb t n p = urNum t n 1 99 q := by
  unfold urAb
  rw [uItP k, e]
theorem urAbS2 {t : Nat → Int32} {n p q : Nat} (k : urKy t n p = 8) (e : q = urAd t n p) : urAb t n p = urSnd t n q := by
  unfold urAb
  rw [uItN (by rw [k]; decide), uItP k, e]
/-- send, read by the model -/
theorem urSndM1 {t : Nat → Int32} {n p b : Nat} (m : urNam t n p = urOk b) (k : ¬ urKy t n b = 9) : urSnd t n p = urOk b ∧ urTp t n p = -1 := by
  obtain ⟨h, e⟩ := urNamO m
  exact urSndT h e k
theorem urSndM2 {t : Nat → Int32} {n p b c : Nat} {f g : Int32} (m : urNam t n p = urOk b) (k : urKy t n b = 9) (e2 : c = urAd t n b) (q : urIs (urNum t n 0 11 c) f g) : urIs (urSnd t n p) f g := by
  obtain ⟨h, e⟩ := urNamO m
  exact urSndN h e k (by rw [← e2]; exact q)
theorem urSndM3 {t : Nat → Int32} {n p b c d : Nat} (m : urNam t n p = urOk b) (k : urKy t n b = 9) (e2 : c = urAd t n b) (o : urNum t n 0 11 c = urOk d) : urSnd t n p = urOk d ∧ urTp t n p = nI (urNu t n c) := by
  obtain ⟨h, e⟩ := urNamO m
  obtain ⟨z1, z2, z3⟩ := urNumO o
  exact urSndO h e k e2 ⟨z1, z2, rfl⟩ z3
noncomputable def urOh1 (t : Nat → Int32) (n p1 : Nat) : Int32 × Int32 × Nat := urTh (urTh (urOp t n p1) (urNam t n)) (fun b => urKey t n 6 (urTw t n b))
noncomputable def urOr1 (t : Nat → Int32) (n p1 : Nat) : Int32 × Int32 × Nat := urTh (urOh1 t n p1) (urAs t n 4)
noncomputable def urOe1 (t : Nat → Int32) (n p1 : Nat) : Nat := urAd t n (urTw t n (urAd t n (urAd t n p1)))
noncomputable def urOq1 (t : Nat → Int32) (n p1 : Nat) : Int32 := uIte (urKy t n p1 = 12) (-1) (nI (urNu t n p1))
noncomputable def urOt1 (t : Nat → Int32) (n p1 : Nat) : Int32 := uIte (urKy t n (urAd t n (urAd t n p1)) = 5) 1 0
theorem urOpF {t : Nat → Int32} {n p : Nat} {f g : Int32} (c : ¬ urKy t n p = 12) (q : urIs (urNum t n 0 11 p) f g) : urIs (urOp t n p) f g := by unfold urOp; rw [uItN c]; exact q
theorem urOpO {t : Nat → Int32} {n p q : Nat} (c : ¬ urKy t n p = 12) (o : urNum t n 0 11 p = urOk q) : urOp t n p = urOk q := by unfold urOp; rw [uItN c]; exact o
theorem urOpO2 {t : Nat → Int32} {n p q : Nat} (o : urOp t n p = urOk q) : q = urAd t n p := by
  unfold urOp at o
  by_cases c : urKy t n p = 12
  · rw [uItP c] at o; exact (urOkI o).symm
  · rw [uItN c] at o; exact (urNumO o).2.2
def urSsM (t : Nat → Int32) (n a b i : Nat) (kd : Nat → Int32) (nm : Nat → Int64) (pl to wt : Nat → Int32) : Prop := ∀ j, j < i → urSlM t n (urAp t n a j) (kd (b + j)) (nm (b + j)) (pl (b + j)) (to (b + j)) (wt (b + j))
theorem urSsM0 {t : Nat → Int32} {n a b : Nat} {kd : Nat → Int32} {nm : Nat → Int64} {pl to wt : Nat → Int32} : urSsM t n a b 0 kd nm pl to wt := fun j h => absurd h (Nat.not_lt_zero j)
theorem urSsMS {t : Nat → Int32} {n a b i p k : Nat} {ac ac' : Nat → Int32} {nm nm' : Nat → Int64} {pl pl' po po' nu nu' : Nat → Int32} (h : urSsM t n a b i ac nm pl po nu) (hi : urAi t n a i p) (hk : k = b + i) (s : urSlM t n p (ac' k) (nm' k) (pl' k) (po' k) (nu' k)) (f : urFr k ac ac' nm nm' pl pl' po po' nu nu') : urSsM t n a b (i + 1) ac' nm' pl' po' nu' := by
  subst hk
  intro j hj
  by_cases c : j = i
  · subst c; rw [← hi.1]; exact s
  · obtain ⟨f1, f2, f3, f4, f5⟩ := f (b + j) (by omega)
    rw [f1, f2, f3, f4, f5]
    exact h j (by omega)
/-- in the midst of an order's acts: a fault; more to come; or all is read -/
def urOi (f g g0 m : Int32) (t : Nat → Int32) (n p1 b p : Nat) (c : Int32) (kd : Nat → Int32) (nm : Nat → Int64) (pl to wt : Nat → Int32) : Prop :=
  (¬ f = 0 ∧ urIs (urOr1 t n p1) f g) ∨ (f = 0 ∧ g = g0 ∧ urOh1 t n p1 = urOk (urOe1 t n p1) ∧ m = 1 ∧ ∃ i, c = nI i ∧ urAi t n (urOe1 t n p1) i p ∧ urSsM t n (urOe1 t n p1) b i kd nm pl to wt) ∨ (f = 0 ∧ g = g0 ∧ m = 0 ∧ urOr1 t n p1 = urOk p ∧ c = nI (urAk t n 4 (urOe1 t n p1)) ∧ urSsM t n (urOe1 t n p1) b (urAk t n 4 (urOe1 t n p1)) kd nm pl to wt)
theorem urOiF {f g g0 m : Int32} {t : Nat → Int32} {n p1 b p : Nat} {c : Int32} {kd : Nat → Int32} {nm : Nat → Int64} {pl to wt : Nat → Int32} (h : urOi f g g0 m t n p1 b p c kd nm pl to wt) (e : ¬ f = 0) : urIs (urOr1 t n p1) f g := by
  rcases h with h | h | h
  · exact h.2
  · exact absurd h.1 e
  · exact absurd h.1 e
theorem urOiM {f g g0 m : Int32} {t : Nat → Int32} {n p1 b p : Nat} {c : Int32} {kd : Nat → Int32} {nm : Nat → Int64} {pl to wt : Nat → Int32} (h : urOi f g g0 m t n p1 b p c kd nm pl to wt) (e : f = 0) (k : ¬ m = 0) : g = g0 ∧ urOh1 t n p1 = urOk (urOe1 t n p1) ∧ ∃ i, c = nI i ∧ urAi t n (urOe1 t n p1) i p ∧ urSsM t n (urOe1 t n p1) b i kd nm pl to wt := by
  rcases h with h | h | h
  · exact absurd e h.1
  · exact ⟨h.2.1, h.2.2.1, h.2.2.2.2⟩
  · exact absurd h.2.2.1 k
theorem urOiE {f g g0 m : Int32} {t : Nat → Int32} {n p1 b p : Nat} {c : Int32} {kd : Nat → Int32} {nm : Nat → Int64} {pl to wt : Nat → Int32} (h : urOi f g g0 m t n p1 b p c kd nm pl to wt) (e : f = 0) (k : m = 0) : g = g0 ∧ urOr1 t n p1 = urOk p ∧ c = nI (urAk t n 4 (urOe1 t n p1)) ∧ urSsM t n (urOe1 t n p1) b (urAk t n 4 (urOe1 t n p1)) kd nm pl to wt := by
  rcases h with h | h | h
  · exact absurd e h.1
  · exact absurd (h.2.2.2.1.symm.trans k) (by decide)
  · exact ⟨h.2.1, h.2.2.2⟩
/-- the loop begins -/
theorem urOi0 {f g g0 : Int32} {t : Nat → Int32} {n p1 b p : Nat} {kd : Nat → Int32} {nm : Nat → Int64} {pl to wt : Nat → Int32} {f1 g1 : Int32} {p4 p3 : Nat} (o : urTh (urOp t n p1) (urNam t n) = urOk p3) (e3 : p3 = urAd t n (urAd t n p1)) (w : p4 = urTw t n p3) (q : urMo (urKey t n 6 p4) f1 g1 f g p) (hf : f1 = 0) (hg : g1 = g0) : urOi f g g0 1 t n p1 b p 0 kd nm pl to wt := by
  rcases q.2 hf with q | ⟨q1, q2, q3⟩
  · refine Or.inl ⟨q.2, ?_⟩
    refine urThI (urThK o ?_)
    rw [← w]
    exact q
  · have z := urKeyO q3
    have e : p = urOe1 t n p1 := by
      unfold urOe1
      rw [← e3, ← w]
      exact z.2
    refine Or.inr (Or.inl ⟨q1, q2.trans hg, ?_, rfl, 0, rfl, ?_, urSsM0⟩)
    · rw [← e]
      refine urThP o ?_
      rw [← w]
      exact q3
    · rw [e]
      exact urAi0
/-- an act is read -/
theorem urOiS {f g g0 m fa ga : Int32} {t : Nat → Int32} {n p1 b p e : Nat} {c c' : Int32} {a : Nat} {ac ac' : Nat → Int32} {nm nm' : Nat → Int64} {pl pl' po po' nu nu' : Nat → Int32} (h : urOi f g g0 m t n p1 b p c ac nm pl po nu) (hf : f = 0) (hm : ¬ m = 0) (ha : c = nI a) (ha4 : a < 2 ^ 31) (q : urMo (urAa t n a p) f g fa ga e) (s : fa = 0 → urSlM t n p (ac' (b + a)) (nm' (b + a)) (pl' (b + a)) (po' (b + a)) (nu' (b + a)) ∧ c' = nI (a + 1)) (fr : urFr (b + a) ac ac' nm nm' pl pl' po po' nu nu') :
    (¬ fa = 0 ∧ urIs (urOr1 t n p1) fa ga) ∨ (fa = 0 ∧ ga = g0 ∧ urOh1 t n p1 = urOk (urOe1 t n p1) ∧ urAi t n (urOe1 t n p1) a p ∧ urAa t n a p = urOk e ∧ c' = nI (a + 1) ∧ urSsM t n (urOe1 t n p1) b (a + 1) ac' nm' pl' po' nu') := by
  obtain ⟨hg, h1, i, h2, h3, h4⟩ := urOiM h hf hm
  have ei : i = a := (nI_eq (by have z := h3.2.1; omega) ha4).mp (h2.symm.trans ha)
  subst ei
  rcases q.2 hf with q | ⟨q1, q2, q3⟩
  · refine Or.inl ⟨q.2, ?_⟩
    exact urThK h1 (urAiF h3 q)
  · obtain ⟨s1, s2⟩ := s q1
    exact Or.inr ⟨q1, q2.trans hg, h1, h3, q3, s2, urSsMS h4 h3 rfl s1 fr⟩
/-- behind an act: a comma, and more; or the end -/
theorem urOiC {g0 fa ga : Int32} {t : Nat → Int32} {n p1 b p e q a : Nat} {c' : Int32} {ac' : Nat → Int32} {nm' : Nat → Int64} {pl' po' nu' : Nat → Int32} (h : (¬ fa = 0 ∧ urIs (urOr1 t n p1) fa ga) ∨ (fa = 0 ∧ ga = g0 ∧ urOh1 t n p1 = urOk (urOe1 t n p1) ∧ urAi t n (urOe1 t n p1) a p ∧ urAa t n a p = urOk e ∧ c' = nI (a + 1) ∧ urSsM t n (urOe1 t n p1) b (a + 1) ac' nm' pl' po' nu')) (hf : fa = 0) (k : urKd t n e = 4) (eq : q = urAd t n e) : urOi fa ga g0 1 t n p1 b q c' ac' nm' pl' po' nu' := by
  rcases h with h | ⟨h1, h2, h3, h4, h5, h6, h7⟩
  · exact absurd hf h.1
  · exact Or.inr (Or.inl ⟨h1, h2, h3, rfl, a + 1, h6, urAiS h4 h5 k eq, h7⟩)
theorem urOiZ {g0 fa ga : Int32} {t : Nat → Int32} {n p1 b p e a : Nat} {c' : Int32} {ac' : Nat → Int32} {nm' : Nat → Int64} {pl' po' nu' : Nat → Int32} (h : (¬ fa = 0 ∧ urIs (urOr1 t n p1) fa ga) ∨ (fa = 0 ∧ ga = g0 ∧ urOh1 t n p1 = urOk (urOe1 t n p1) ∧ urAi t n (urOe1 t n p1) a p ∧ urAa t n a p = urOk e ∧ c' = nI (a + 1) ∧ urSsM t n (urOe1 t n p1) b (a + 1) ac' nm' pl' po' nu')) (k : fa = 0 → ¬ urKd t n e = 4) : urOi fa ga g0 0 t n p1 b e c' ac' nm' pl' po' nu' := by
  rcases h with h | ⟨h1, h2, h3, h4, h5, h6, h7⟩
  · exact Or.inl h
  · have z := urAiE h4 h5 (k h1)
    refine Or.inr (Or.inr ⟨h1, h2, rfl, urThP h3 z.1, ?_, ?_⟩)
    · rw [z.2]; exact h6
    · rw [z.2]; exact h7
/-- a comma by the model's token -/
theorem urTm44 {t : Nat → Int32} {n p a : Nat} {so va : Int32} {nm : Int64} (h : urTm t n p a so va nm) (k : so = 2) (c : va = 44) : urKd t n p = 4 := by
  rcases (urTmSo h).2.2.1.mp k with z | z
  · exact absurd ((h.2.2.2.2.1 z).symm.trans c) (by decide)
  · exact z
theorem urTm44N {t : Nat → Int32} {n p a : Nat} {so va : Int32} {nm : Int64} (h : urTm t n p a so va nm) (k : ¬ so = 2 ∨ ¬ va = 44) : ¬ urKd t n p = 4 := by
  intro z
  rcases k with k | k
  · exact k ((urTmSo h).2.2.1.mpr (Or.inr z))
  · exact k (h.2.2.2.2.2 z)
theorem urTm59 {t : Nat → Int32} {n p a : Nat} {so va : Int32} {nm : Int64} (h : urTm t n p a so va nm) (k : so = 2) (c : va = 59) : urKd t n p = 3 := by
  rcases (urTmSo h).2.2.1.mp k with z | z
  · exact z
  · exact absurd ((h.2.2.2.2.2 z).symm.trans c) (by decide)
theorem urTm59N {t : Nat → Int32} {n p a : Nat} {so va : Int32} {nm : Int64} (h : urTm t n p a so va nm) (k : ¬ so = 2 ∨ ¬ va = 59) : ¬ urKd t n p = 3 := by
  intro z
  rcases k with k | k
  · exact k ((urTmSo h).2.2.1.mpr (Or.inl z))
  · exact k (h.2.2.2.2.1 z)
theorem urFbT {b c : Nat} {ac ac' ad : Nat → Int32} {nm nm' nd : Nat → Int64} {pl pl' ld po po' od nu nu' ud : Nat → Int32} (h : urFb b c ac ac' nm nm' pl pl' po po' nu nu') (f : urFb b c ac' ad nm' nd pl' ld po' od nu' ud) : urFb b c ac ad nm nd pl ld po od nu ud := by
  intro j hj
  obtain ⟨f1, f2, f3, f4, f5⟩ := f j hj
  obtain ⟨h1, h2, h3, h4, h5⟩ := h j hj
  exact ⟨f1.trans h1, f2.trans h2, f3.trans h3, f4.trans h4, f5.trans h5⟩
/-- what a clean order leaves -/
def urOm (t : Nat → Int32) (n p O : Nat) (on : Nat → Int64) (op oq ow c kd : Nat → Int32) (nm : Nat → Int64) (pl to wt r : Nat → Int32) : Prop := urKd t n (urAd t n p) = 1 ∧ on (16 + O) = lN (urNm 27 t n (urAd t n p)) ∧ op (16 + O) = nI (urAd t n p) ∧ oq (16 + O) = urOq1 t n p ∧ ow (16 + O) = urOt1 t n p ∧ c (16 + O) = nI (urAk t n 4 (urOe1 t n p)) ∧ urSsM t n (urOe1 t n p) (4 * (16 + O)) (urAk t n 4 (urOe1 t n p)) kd nm pl to wt ∧ r 1 = nI (O + 1)
/-- an order leaves the others as they are -/
def urFz (O : Nat) (on on' : Nat → Int64) (op op' oq oq' ow ow' c c' kd kd' : Nat → Int32) (nm nm' : Nat → Int64) (pl pl' to to' wt wt' r r' : Nat → Int32) : Prop := (∀ k, ¬ k = 16 + O → on' k = on k ∧ op' k = op k ∧ oq' k = oq k ∧ ow' k = ow k ∧ c' k = c k) ∧ urFb (4 * (16 + O)) 4 kd kd' nm nm' pl pl' to to' wt wt' ∧ r' 0 = r 0
theorem urNm2 {t : Nat → Int32} {n p1 p2 p3 : Nat} (o : urOp t n p1 = urOk p2) (m : urNam t n p2 = urOk p3) : p3 = urAd t n (urAd t n p1) := by rw [(urNamO m).2, urOpO2 o]
theorem urOiS2 {f g g0 m fa ga : Int32} {t : Nat → Int32} {n p1 b p e : Nat} {c c' : Int32} {a : Nat} {ac ac' : Nat → Int32} {nm nm' : Nat → Int64} {pl pl' po po' nu nu' : Nat → Int32} (h : urOi f g g0 m t n p1 b p c ac nm pl po nu) (hf : f = 0) (hm : ¬ m = 0) (ha : c = nI a) (ha4 : a < 2 ^ 31) (q : urMo (urAa t n a p) f g fa ga e) (s : fa = 0 → urSlM t n p (ac' (b + a)) (nm' (b + a)) (pl' (b + a)) (po' (b + a)) (nu' (b + a)) ∧ c' = nI (a + 1) ∧ urFr (b + a) ac ac' nm nm' pl pl' po po' nu nu') :
    (¬ fa = 0 ∧ urIs (urOr1 t n p1) fa ga) ∨ (fa = 0 ∧ ga = g0 ∧ urOh1 t n p1 = urOk (urOe1 t n p1) ∧ urAi t n (urOe1 t n p1) a p ∧ urAa t n a p = urOk e ∧ c' = nI (a + 1) ∧ urSsM t n (urOe1 t n p1) b (a + 1) ac' nm' pl' po' nu') := by
  by_cases z : fa = 0
  · exact urOiS h hf hm ha ha4 q (fun _ => ⟨(s z).1, (s z).2.1⟩) (s z).2.2
  · obtain ⟨hg, h1, i, h2, h3, h4⟩ := urOiM h hf hm
    have ei : i = a := (nI_eq (by have z := h3.2.1; omega) ha4).mp (h2.symm.trans ha)
    subst ei
    rcases q.2 hf with q | ⟨q1, _, _⟩
    · exact Or.inl ⟨q.2, urThK h1 (urAiF h3 q)⟩
    · exact absurd q1 z
/-! the model's lines -/
theorem urLiB {t : Nat → Int32} {n p W L O : Nat} {told dup mt lt : Prop} {f g : Int32} (h : urIs (urBo t n told dup W L O mt lt p) f g) : urIs (urLi t n told dup W L O mt lt p) f g := urThI h
/-- a line whose body is told by a step of the model -/
theorem urLiM {t : Nat → Int32} {n p W L O : Nat} {told dup mt lt : Prop} {B : Int32 × Int32 × Nat} {f g f1 g1 f2 g2 : Int32} {p1 p2 : Nat} (e : urBo t n told dup W L O mt lt p = B) (a : urMo B f g f1 g1 p1) (b : urMo (urMar t n 3 p1) f1 g1 f2 g2 p2) : urMo (urLi t n told dup W L O mt lt p) f g f2 g2 p2 := by
  unfold urLi
  rw [e]
  exact urMoT a b
theorem urLiF {t : Nat → Int32} {n p W L O : Nat} {told dup mt lt : Prop} {B : Int32 × Int32 × Nat} {f g f1 g1 : Int32} {p1 p2 : Nat} (e : urBo t n told dup W L O mt lt p = B) (a : urMo B f g f1 g1 p1) (h : ¬ f1 = 0) : urMo (urLi t n told dup W L O mt lt p) f g f1 g1 p2 := by
  unfold urLi
  rw [e]
  exact urMoF a h
theorem urMarM {t : Nat → Int32} {n p a : Nat} {so va f g f' g' : Int32} {nm : Int64} {q : Nat} (h : urTm t n p a so va nm) (hf : f = 0) (k : ¬ so = 2 ∨ ¬ va = 59) (w : urWa f g f' g' 1 (nI p)) : urMo (urMar t n 3 p) f g f' g' q := by
  refine urMoB hf (urWaI w hf ?_)
  rw [urMar1 (urTm59N h k)]
  exact urIsB (by decide)
theorem urMarY {t : Nat → Int32} {n p a q : Nat} {so va f g f' g' : Int32} {nm : Int64} (h : urTm t n p a so va nm) (hf : f = 0) (hf2 : f' = 0) (hg : g' = g) (k : so = 2) (c : va = 59) (e : q = urAd t n p) : urMo (urMar t n 3 p) f g f' g' q := urMoO hf hf2 hg (by rw [urMar2 (urTm59 h k c), e])
/-- a line that has no such beginning -/
theorem urTmK5 {t : Nat → Int32} {n p a w : Nat} {so va : Int32} {nm : Int64} (h : urTm t n p a so va nm) (hw : w ≤ 4) (c : ¬ so = 0 ∨ va = -1 ∨ 4 < va) : ¬ urKy t n p = nI w := by
  intro z
  by_cases kd : urKd t n p = 1
  · have e := (h.2.2.1 kd).1.trans z
    rcases c with c | c | c
    · exact c ((urTmSo h).1.mpr kd)
    · rw [c] at e
      exact absurd (congrArg Int32.toInt e) (by rw [nI_toInt (by omega)]; simp only [Int32.reduceToInt]; omega)
    · rw [e] at c
      have z2 := (nI_ltI (a := 4) (b := w) (by decide) (by omega)).mp c
      omega
  · rw [urKyN kd] at z
    exact absurd (congrArg Int32.toInt z) (by rw [nI_toInt (by omega)]; simp only [Int32.reduceToInt]; omega)
/-! the model in the midst of the text -/
def urMwA (t : Nat → Int32) (n W : Nat) (pw : Nat → Nat) (N : Nat → Int64) (L S : Nat → Int32) : Prop := ∀ k, k < W → (urKd t n (pw k) = 1 ∧ (urRo t n 5 (urAd t n (pw k))).1 = 0) ∧ N (10 + k) = lN (urNm 27 t n (pw k)) ∧ L (10 + k) = nI (urRl t n 5 (urAd t n (pw k))) ∧ ∀ i, i < urRl t n 5 (urAd t n (pw k)) → S (5 * (10 + k) + i) = nI (urSg t n (urAd t n (pw k)) i)
theorem urMwA0 {t : Nat → Int32} {n : Nat} {pw : Nat → Nat} {N : Nat → Int64} {L S : Nat → Int32} : urMwA t n 0 pw N L S := fun k hk => absurd hk (Nat.not_lt_zero k)
theorem urMwAS {t : Nat → Int32} {n W p : Nat} {pw : Nat → Nat} {N N' : Nat → Int64} {L L' S S' w' : Nat → Int32} (h : urMwA t n W pw N L S) (m : urMw t n p W N N' L L' S S' w') : urMwA t n (W + 1) (urPu pw W p) N' L' S' := by
  obtain ⟨m1, ⟨r1, r2, r3, r4⟩, m3, m4, m5⟩ := m
  intro k hk
  by_cases e : k = W
  · subst e
    rw [urPuS]
    exact ⟨⟨m4, m5⟩, m1.1, r1, r4⟩
  · obtain ⟨a1, a2, a3, a4⟩ := h k (by omega)
    rw [urPuN e, m1.2 (10 + k) (by omega), r2 (10 + k) (by omega)]
    refine ⟨a1, a2, a3, fun i hi => ?_⟩
    have z := (urRoZ 5 _ a1.2).2
    rw [r3 (5 * (10 + k) + i) (by omega)]
    exact a4 i hi
theorem urNmY {t : Nat → Int32} {n p q : Nat} (h : urKd t n p = 1) (k : urKd t n q = 1) : lN (urNm 27 t n p) = lN (urNm 27 t n q) ↔ urNm 32 t n p = urNm 32 t n q := by
  unfold urNm
  rw [urlN (urNCB (by decide) (by decide) (urLs1 h)) (urNCB (by decide) (by decide) (urLs1 k))]
  exact (urNCX (urLs1 h) (urLs1 k)).symm
theorem urTdM {t : Nat → Int32} {n W q : Nat} {pw : Nat → Nat} {N : Nat → Int64} {L S : Nat → Int32} (c : urMwA t n W pw N L S) (v : urKd t n q = 1) : urTf9 N 10 W (lN (urNm 27 t n q)) ↔ urTa t n W pw q := by
  constructor
  · rintro ⟨k, hk, e⟩
    exact ⟨k, hk, (urNmY (c k hk).1.1 v).mp ((c k hk).2.1.symm.trans e)⟩
  · rintro ⟨k, hk, e⟩
    exact ⟨k, hk, (c k hk).2.1.trans ((urNmY (c k hk).1.1 v).mpr e)⟩
theorem urDpM {t : Nat → Int32} {n W q : Nat} {pw : Nat → Nat} {N : Nat → Int64} {L S : Nat → Int32} (c : urMwA t n W pw N L S) (v : (urRo t n 5 q).1 = 0) : urDm L S W t n q ↔ urDa t n W pw q := by
  have l5 := (urRoZ 5 _ v).2
  constructor
  · rintro ⟨k, hk, e1, e2⟩
    obtain ⟨a1, a2, a3, a4⟩ := c k hk
    have k5 := (urRoZ 5 _ a1.2).2
    have e3 : urRl t n 5 (urAd t n (pw k)) = urRl t n 5 q := (nI_eq (by omega) (by omega)).mp (a3.symm.trans e1)
    refine ⟨k, hk, (urRcI (t' := t) a1.2 v).mpr ⟨e3, fun i hi => ?_⟩⟩
    have b1 := (urRoZ 5 _ a1.2).1 i hi
    have b2 := (urRoZ 5 _ v).1 i (by omega)
    exact (nI_eq (by omega) (by omega)).mp ((a4 i hi).symm.trans (e2 i (by omega)))
  · rintro ⟨k, hk, e⟩
    obtain ⟨a1, a2, a3, a4⟩ := c k hk
    obtain ⟨e1, e2⟩ := (urRcI (t' := t) a1.2 v).mp e
    refine ⟨k, hk, by rw [a3, e1], fun i hi => ?_⟩
    rw [a4 i (by omega), e2 i (by omega)]
def urMoA (t : Nat → Int32) (n O : Nat) (po : Nat → Nat) (on : Nat → Int64) (op oq ow c kd : Nat → Int32) (nm : Nat → Int64) (pl to wt : Nat → Int32) : Prop := ∀ o, o < O → urKd t n (urAd t n (urAd t n (po o))) = 1 ∧ on (16 + o) = lN (urNm 27 t n (urAd t n (urAd t n (po o)))) ∧ op (16 + o) = nI (urAd t n (urAd t n (po o))) ∧ oq (16 + o) = urOq t n (po o) ∧ ow (16 + o) = urOt t n (po o) ∧ c (16 + o) = nI (urAk t n 4 (urOe t n (po o))) ∧ urSsM t n (urOe t n (po o)) (4 * (16 + o)) (urAk t n 4 (urOe t n (po o))) kd nm pl to wt
theorem urMoA0 {t : Nat → Int32} {n : Nat} {po : Nat → Nat} {on : Nat → Int64} {op oq ow c kd : Nat → Int32} {nm : Nat → Int64} {pl to wt : Nat → Int32} : urMoA t n 0 po on op oq ow c kd nm pl to wt := fun k hk => absurd hk (Nat.not_lt_zero k)
theorem urMoAS {t : Nat → Int32} {n O p : Nat} {po : Nat → Nat} {on on' : Nat → Int64} {op op' oq oq' ow ow' c c' kd kd' : Nat → Int32} {nm nm' : Nat → Int64} {pl pl' to to' wt wt' r r' : Nat → Int32} (h : urMoA t n O po on op oq ow c kd nm pl to wt) (m : urOm t n (urAd t n p) O on' op' oq' ow' c' kd' nm' pl' to' wt' r') (f : urFz O on on' op op' oq oq' ow ow' c c' kd kd' nm nm' pl pl' to to' wt wt' r r') : urMoA t n (O + 1) (urPu po O p) on' op' oq' ow' c' kd' nm' pl' to' wt' := by
  obtain ⟨m1, m2, m3, m4, m5, m6, m7, m8⟩ := m
  obtain ⟨f1, f2, f3⟩ := f
  intro o ho
  by_cases e : o = O
  · subst e
    rw [urPuS]
    exact ⟨m1, m2, m3, m4, m5, m6, m7⟩
  · obtain ⟨a1, a2, a3, a4, a5, a6, a7⟩ := h o (by omega)
    obtain ⟨g1, g2, g3, g4, g5⟩ := f1 (16 + o) (by omega)
    rw [urPuN e, g1, g2, g3, g4, g5]
    refine ⟨a1, a2, a3, a4, a5, a6, fun j hj => ?_⟩
    have z := urAkL (t := t) (n := n) 4 (urOe t n (po o))
    obtain ⟨q1, q2, q3, q4, q5⟩ := f2 (4 * (16 + o) + j) (by omega)
    rw [q1, q2, q3, q4, q5]
    exact a7 j hj
/-- the model's told and twice-told are the text's -/
theorem urLiE {t : Nat → Int32} {n p W L O : Nat} {mt lt : Prop} {pw : Nat → Nat} {N : Nat → Int64} {Lg S : Nat → Int32} (c : urMwA t n W pw N Lg S) : urLi t n (urTf9 N 10 W (lN (urNm 27 t n (urAd t n p)))) (urDm Lg S W t n (urAd t n (urAd t n p))) W L O mt lt p = urLi t n (urTa t n W pw (urAd t n p)) (urDa t n W pw (urAd t n (urAd t n p))) W L O mt lt p := by
  unfold urLi urBo
  rw [urWdE (told := urTf9 N 10 W (lN (urNm 27 t n (urAd t n p)))) (dup := urDm Lg S W t n (urAd t n (urAd t n p))) (fun v => urTdM c v) (fun v => urDpM c v)]
/-- fuel enough -/
def urFu (n k at_ : Nat) (so : Int32) : Prop := so = 3 ∨ n + 1 ≤ k + at_
def urRm (t : Nat → Int32) (n p at_ : Nat) (so : Int32) (W L O : Nat) (mt lt mi lo : Int32) (N : Nat → Int64) (Lg S : Nat → Int32) (on : Nat → Int64) (op oq ow c kd : Nat → Int32) (nm : Nat → Int64) (pl to wt : Nat → Int32) : Prop := ∃ k pw pz po, urFu n k at_ so ∧ urMwA t n W pw N Lg S ∧ urMoA t n O po on op oq ow c kd nm pl to wt ∧ urAl t n k p W L O mt lt mi lo pw pz po = urFin t n
section URM
variable {t : Nat → Int32} {n p at_ p' at' W L O : Nat} {so so' va va' mt lt mi lo mt' lt' mi' lo' f g : Int32} {nm1 nm1' : Int64} {N N' : Nat → Int64} {Lg Lg' S S' : Nat → Int32} {on on' : Nat → Int64} {op op' oq oq' ow ow' c c' kd kd' : Nat → Int32} {nm nm' : Nat → Int64} {pl pl' to to' wt wt' w' r r' : Nat → Int32}
theorem urRm0 (e : p = urTo (urBl t) n 0) (h : urTm t n p at_ so va nm1) : urRm t n p at_ so 0 0 0 0 0 2 1 N Lg S on op oq ow c kd nm pl to wt := by
  refine ⟨n, fun _ => 0, fun _ => 0, fun _ => 0, ?_, urMwA0, urMoA0, by rw [e]; rfl⟩
  by_cases k : so = 3
  · exact Or.inl k
  · have z := urNxS (t := t) (n := n) (p := p) (fun q => k ((urTmSo h).2.2.2.mpr q))
    rw [← h.1] at z
    exact Or.inr (by omega)
/-- what a line does to the text's state: the fault -/
theorem urRmF (s : urRm t n p at_ so W L O mt lt mi lo N Lg S on op oq ow c kd nm pl to wt) (h : urTm t n p at_ so va nm1) (ha : at_ ≤ n) (k3 : ¬ so = 3) (z : urIs (urLi t n (urTf9 N 10 W (lN (urNm 27 t n (urAd t n p)))) (urDm Lg S W t n (urAd t n (urAd t n p))) W L O (¬ mt = 0) (¬ lt = 0) p) f g) : urIs (urFin t n).1 f g := by
  obtain ⟨k, pw, pz, po, s1, s2, s3, s4⟩ := s
  have kd0 : ¬ urKd t n p = 0 := fun q => k3 ((urTmSo h).2.2.2.mpr q)
  obtain ⟨j, e⟩ : ∃ j, k = j + 1 := ⟨k - 1, by have z9 := s1.resolve_left k3; omega⟩
  subst e
  rw [← s4]
  refine urAlF kd0 ?_
  rw [urLiE s2] at z
  exact z
theorem urRmK (s : urRm t n p at_ so W L O mt lt mi lo N Lg S on op oq ow c kd nm pl to wt) (h : urTm t n p at_ so va nm1) (ha : at_ ≤ n) (k3 : ¬ so = 3) (z : urLi t n (urTf9 N 10 W (lN (urNm 27 t n (urAd t n p)))) (urDm Lg S W t n (urAd t n (urAd t n p))) W L O (¬ mt = 0) (¬ lt = 0) p = urOk p') (ad : so' = 3 ∨ at_ < at') : ∃ k pw pz po, urFu n k at' so' ∧ urMwA t n W pw N Lg S ∧ urMoA t n O po on op oq ow c kd nm pl to wt ∧ urFin t n = uIte (urKy t n p = 0) (urAl t n k p' (W + 1) L O mt lt mi lo (urPu pw W (urAd t n p)) pz po)
      (uIte (urKy t n p = 1) (urAl t n k p' W (L + 1) O mt lt mi lo pw (urPu pz L (urAd t n p)) po)
      (uIte (urKy t n p = 2) (urAl t n k p' W L O 1 lt (nI (urNu t n (urAd t n p))) lo pw pz po)
      (uIte (urKy t n p = 3) (urAl t n k p' W L O mt 1 mi (nI (urNu t n (urAd t n p))) pw pz po)
      (urAl t n k p' W L (O + 1) mt lt mi lo pw pz (urPu po O p))))) := by
  obtain ⟨k, pw, pz, po, s1, s2, s3, s4⟩ := s
  have kd0 : ¬ urKd t n p = 0 := fun q => k3 ((urTmSo h).2.2.2.mpr q)
  have s1 : n + 1 ≤ k + at_ := s1.resolve_left k3
  obtain ⟨j, e⟩ : ∃ j, k = j + 1 := ⟨k - 1, by omega⟩
  subst e
  rw [urLiE s2] at z
  refine ⟨j, pw, pz, po, ?_, s2, s3, ?_⟩
  · rcases ad with ad | ad
    · exact Or.inl ad
    · exact Or.inr (by omega)
  · rw [← s4]
    exact urAlS kd0 z
theorem urRmS0 (s : urRm t n p at_ so W L O mt lt mi lo N Lg S on op oq ow c kd nm pl to wt) (h : urTm t n p at_ so va nm1) (ha : at_ ≤ n) (k3 : ¬ so = 3) (z : urLi t n (urTf9 N 10 W (lN (urNm 27 t n (urAd t n p)))) (urDm Lg S W t n (urAd t n (urAd t n p))) W L O (¬ mt = 0) (¬ lt = 0) p = urOk p') (ad : so' = 3 ∨ at_ < at') (ky : urKy t n p = 0) (m : urMw t n (urAd t n p) W N N' Lg Lg' S S' w') : urRm t n p' at' so' (W + 1) L O mt lt mi lo N' Lg' S' on op oq ow c kd nm pl to wt := by
  obtain ⟨k, pw, pz, po, s1, s2, s3, s4⟩ := urRmK s h ha k3 z ad
  refine ⟨k, urPu pw W (urAd t n p), pz, po, s1, urMwAS s2 m, s3, ?_⟩
  rw [s4, uItP ky]
theorem urRmS1 (s : urRm t n p at_ so W L O mt lt mi lo N Lg S on op oq ow c kd nm pl to wt) (h : urTm t n p at_ so va nm1) (ha : at_ ≤ n) (k3 : ¬ so = 3) (z : urLi t n (urTf9 N 10 W (lN (urNm 27 t n (urAd t n p)))) (urDm Lg S W t n (urAd t n (urAd t n p))) W L O (¬ mt = 0) (¬ lt = 0) p = urOk p') (ad : so' = 3 ∨ at_ < at') (ky : urKy t n p = 1) : urRm t n p' at' so' W (L + 1) O mt lt mi lo N Lg S on op oq ow c kd nm pl to wt := by
  obtain ⟨k, pw, pz, po, s1, s2, s3, s4⟩ := urRmK s h ha k3 z ad
  refine ⟨k, pw, urPu pz L (urAd t n p), po, s1, s2, s3, ?_⟩
  rw [s4, uItN (by rw [ky]; decide), uItP ky]
theorem urRmS2 (s : urRm t n p at_ so W L O mt lt mi lo N Lg S on op oq ow c kd nm pl to wt) (h : urTm t n p at_ so va nm1) (ha : at_ ≤ n) (k3 : ¬ so = 3) (z : urLi t n (urTf9 N 10 W (lN (urNm 27 t n (urAd t n p)))) (urDm Lg S W t n (urAd t n (urAd t n p))) W L O (¬ mt = 0) (¬ lt = 0) p = urOk p') (ad : so' = 3 ∨ at_ < at') (ky : urKy t n p = 2) (e1 : mt' = 1) (e2 : mi' = nI (urNu t n (urAd t n p))) : urRm t n p' at' so' W L O mt' lt mi' lo N Lg S on op oq ow c kd nm pl to wt := by
  obtain ⟨k, pw, pz, po, s1, s2, s3, s4⟩ := urRmK s h ha k3 z ad
  refine ⟨k, pw, pz, po, s1, s2, s3, ?_⟩
  rw [s4, uItN (by rw [ky]; decide), uItN (by rw [ky]; decide), uItP ky, e1, e2]
theorem urRmS3 (s : urRm t n p at_ so W L O mt lt mi lo N Lg S on op oq ow c kd nm pl to wt) (h : urTm t n p at_ so va nm1) (ha : at_ ≤ n) (k3 : ¬ so = 3) (z : urLi t n (urTf9 N 10 W (lN (urNm 27 t n (urAd t n p)))) (urDm Lg S W t n (urAd t n (urAd t n p))) W L O (¬ mt = 0) (¬ lt = 0) p = urOk p') (ad : so' = 3 ∨ at_ < at') (ky : urKy t n p = 3) (e1 : lt' = 1) (e2 : lo' = nI (urNu t n (urAd t n p))) : urRm t n p' at' so' W L O mt lt' mi lo' N Lg S on op oq ow c kd nm pl to wt := by
  obtain ⟨k, pw, pz, po, s1, s2, s3, s4⟩ := urRmK s h ha k3 z ad
  refine ⟨k, pw, pz, po, s1, s2, s3, ?_⟩
  rw [s4, uItN (by rw [ky]; decide), uItN (by rw [ky]; decide), uItN (by rw [ky]; decide), uItP ky, e1, e2]
theorem urRmS4 (s : urRm t n p at_ so W L O mt lt mi lo N Lg S on op oq ow c kd nm pl to wt) (h : urTm t n p at_ so va nm1) (ha : at_ ≤ n) (k3 : ¬ so = 3) (z : urLi t n (urTf9 N 10 W (lN (urNm 27 t n (urAd t n p)))) (urDm Lg S W t n (urAd t n (urAd t n p))) W L O (¬ mt = 0) (¬ lt = 0) p = urOk p') (ad : so' = 3 ∨ at_ < at') (ky : urKy t n p = 4) (m : urOm t n (urAd t n p) O on' op' oq' ow' c' kd' nm' pl' to' wt' r') (fo : urFz O on on' op op' oq oq' ow ow' c c' kd kd' nm nm' pl pl' to to' wt wt' r r') : urRm t n p' at' so' W L (O + 1) mt lt mi lo N Lg S on' op' oq' ow' c' kd' nm' pl' to' wt' := by
  obtain ⟨k, pw, pz, po, s1, s2, s3, s4⟩ := urRmK s h ha k3 z ad
  refine ⟨k, pw, pz, urPu po O p, s1, s2, urMoAS s3 m fo, ?_⟩
  rw [s4, uItN (by rw [ky]; decide), uItN (by rw [ky]; decide), uItN (by rw [ky]; decide), uItN (by rw [ky]; decide)]
end URM
/-! the model's search for words that no line tells -/
def urFy (y : Int32) (R S : Int32 × Int32 × Nat) : Prop := (y = -1 ∧ R = S) ∨ (¬ y = -1 ∧ R = (4, y, 0))
theorem urFyS {y : Int32} {R S S' : Int32 × Int32 × Nat} (h : urFy y R S) (e : S = S') : urFy y R S' := by rw [← e]; exact h
theorem urFyK {y : Int32} {R S S' : Int32 × Int32 × Nat} (h : urFy y R S) (k : ¬ y = -1) : urFy y R S' := by
  rcases h with h | h
  · exact absurd h.1 k
  · exact Or.inr h
theorem urFyY {y z : Int32} {R S S' : Int32 × Int32 × Nat} (h : urFy y R S) (k : y = -1) (e : S = (4, z, 0)) (n : ¬ z = -1) : urFy z R S' := by
  rcases h with h | h
  · exact Or.inr ⟨n, h.2.trans e⟩
  · exact absurd k h.1
theorem urFy0 {R : Int32 × Int32 × Nat} : urFy (-1) R R := Or.inl ⟨rfl, rfl⟩
theorem urn1 {a : Nat} (h : a < 2147483648) : ¬ nI a = -1 := by
  intro z
  exact absurd (congrArg Int32.toInt z) (by rw [nI_toInt (by omega)]; simp only [Int32.reduceToInt]; omega)
noncomputable def urQq (N : Nat → Int64) (W O : Nat) (on : Nat → Int64) (op c kd : Nat → Int32) (nm : Nat → Int64) (pl : Nat → Int32) (o : Nat) : Int32 × Int32 × Nat := urUo (fun j => ¬ urTf9 N 10 W (on (16 + j))) (fun j => op (16 + j)) (fun j => uN (c (16 + j))) (fun j i => kd (4 * (16 + j) + i) = 1 ∧ ¬ urTf9 N 10 W (nm (4 * (16 + j) + i))) (fun j i => pl (4 * (16 + j) + i)) (O - (o - 16)) (o - 16)
noncomputable def urMr (N : Nat → Int64) (W O : Nat) (on : Nat → Int64) (op c kd : Nat → Int32) (nm : Nat → Int64) (pl : Nat → Int32) (o k : Nat) : Int32 × Int32 × Nat := urTh (urUa (fun i => kd (4 * o + i) = 1 ∧ ¬ urTf9 N 10 W (nm (4 * o + i))) (fun i => pl (4 * o + i)) (uN (c o) - (k - 4 * o)) (k - 4 * o)) (fun _ => urQq N W O on op c kd nm pl (o + 1))
section URQ
variable {N : Nat → Int64} {W O o k : Nat} {on : Nat → Int64} {op c kd : Nat → Int32} {nm : Nat → Int64} {pl : Nat → Int32}
theorem urQqE (h : 16 + O ≤ o) : urQq N W O on op c kd nm pl o = urOk 0 := by
  unfold urQq
  rw [show O - (o - 16) = 0 by omega]
  rfl
theorem urQqY (h : 16 ≤ o) (g : o < 16 + O) (z : ¬ urTf9 N 10 W (on o)) : urQq N W O on op c kd nm pl o = (4, op o, 0) := by
  obtain ⟨j, rfl⟩ : ∃ j, o = 16 + j := ⟨o - 16, by omega⟩
  unfold urQq
  rw [show O - (16 + j - 16) = (O - (j + 1)) + 1 by omega, show 16 + j - 16 = j by omega]
  show uIte (¬ urTf9 N 10 W (on (16 + j))) (4, op (16 + j), 0) _ = _
  exact uItP z
theorem urQqN (h : 16 ≤ o) (g : o < 16 + O) (z : urTf9 N 10 W (on o)) : urQq N W O on op c kd nm pl o = urMr N W O on op c kd nm pl o (4 * o) := by
  obtain ⟨j, rfl⟩ : ∃ j, o = 16 + j := ⟨o - 16, by omega⟩
  unfold urMr urQq
  rw [show O - (16 + j - 16) = (O - (j + 1)) + 1 by omega, show 16 + j - 16 = j by omega, show O - (16 + j + 1 - 16) = O - (j + 1) by omega, show 16 + j + 1 - 16 = j + 1 by omega, show 4 * (16 + j) - 4 * (16 + j) = 0 by omega, Nat.sub_zero]
  exact uItN (fun q => q z)
theorem urMrE (h : uN (c o) ≤ k - 4 * o) : urMr N W O on op c kd nm pl o k = urQq N W O on op c kd nm pl (o + 1) := by
  unfold urMr
  rw [show uN (c o) - (k - 4 * o) = 0 by omega]
  exact urThE (p := 0) rfl
theorem urMrN (h : 4 * o ≤ k) (g : k - 4 * o < uN (c o)) (z : ¬ (kd k = 1 ∧ ¬ urTf9 N 10 W (nm k))) : urMr N W O on op c kd nm pl o k = urMr N W O on op c kd nm pl o (k + 1) := by
  obtain ⟨i, rfl⟩ : ∃ i, k = 4 * o + i := ⟨k - 4 * o, by omega⟩
  unfold urMr
  rw [show 4 * o + i - 4 * o = i by omega, show 4 * o + i + 1 - 4 * o = i + 1 by omega] at *
  rw [urUaN (B := fun i => kd (4 * o + i) = 1 ∧ ¬ urTf9 N 10 W (nm (4 * o + i))) z g]
theorem urMrY (h : 4 * o ≤ k) (g : k - 4 * o < uN (c o)) (z : kd k = 1) (z2 : ¬ urTf9 N 10 W (nm k)) : urMr N W O on op c kd nm pl o k = (4, pl k, 0) := by
  obtain ⟨i, rfl⟩ : ∃ i, k = 4 * o + i := ⟨k - 4 * o, by omega⟩
  rw [show 4 * o + i - 4 * o = i by omega] at g
  have b := urUaB (B := fun i => kd (4 * o + i) = 1 ∧ ¬ urTf9 N 10 W (nm (4 * o + i))) (Q := fun i => pl (4 * o + i)) (C := uN (c o)) ⟨z, z2⟩ g
  unfold urMr
  rw [show 4 * o + i - 4 * o = i by omega]
  exact (urThI b).1
theorem urQqZ {t : Nat → Int32} {n : Nat} {pw po : Nat → Nat} {Lg S oq ow to wt : Nat → Int32} (w : urMwA t n W pw N Lg S) (s : urMoA t n O po on op oq ow c kd nm pl to wt) : urQq N W O on op c kd nm pl 16 = urUz t n W O pw po := by
  unfold urQq
  rw [show O - (16 - 16) = O by omega]
  refine urUoE O 0 (fun j _ hj => ?_)
  obtain ⟨k1, k2, k3, k4, k5, k6, k7⟩ := s j (by omega)
  have k8 := urAkL (t := t) (n := n) 4 (urOe t n (po j))
  refine ⟨?_, k3, ?_, fun i hi => ?_⟩
  · show ¬ urTf9 N 10 W (on (16 + j)) ↔ _
    rw [k2, urTdM w k1]
  · show uN (c (16 + j)) = _
    exact uNe (by omega) k6
  · have hi : i < uN (c (16 + j)) := hi
    rw [uNe (by omega) k6] at hi
    obtain ⟨a1, a2, a3⟩ := k7 i hi
    have a4 : kd (4 * (16 + j) + i) = 1 ↔ urKy t n (urAp t n (urOe t n (po j)) i) = 8 := by rw [a1]; exact urKM1
    constructor
    · show (kd (4 * (16 + j) + i) = 1 ∧ ¬ urTf9 N 10 W (nm (4 * (16 + j) + i))) ↔ _
      constructor
      · rintro ⟨z1, z2⟩
        have z3 := a4.mp z1
        obtain ⟨b1, b2, b3, b4⟩ := a2 z3
        rw [b1, urTdM w b4] at z2
        exact ⟨z3, z2⟩
      · rintro ⟨z1, z2⟩
        obtain ⟨b1, b2, b3, b4⟩ := a2 z1
        rw [← urTdM w b4, ← b1] at z2
        exact ⟨a4.mpr z1, z2⟩
    · rintro ⟨z1, z2⟩
      exact (a2 (a4.mp z1)).2.1
end URQ
/-- what the search leaves -/
def urRz (R : Int32 × Int32 × Nat) (f g f' g' : Int32) : Prop := (f' = f ∧ g' = g ∧ R = urOk 0) ∨ urIs R f' g'
theorem urRzN {y f g : Int32} {R S : Int32 × Int32 × Nat} (h : urFy y R S) (k : y = -1) (e : S = urOk 0) : urRz R f g f g := by
  rcases h with h | h
  · exact Or.inl ⟨rfl, rfl, h.2.trans e⟩
  · exact absurd k h.1
theorem urRzY {y f g f' g' : Int32} {R S : Int32 × Int32 × Nat} (h : urFy y R S) (k : ¬ y = -1) (w : urWa f g f' g' 4 y) (hf : f = 0) : urRz R f g f' g' := by
  rcases h with h | h
  · exact absurd h.1 k
  · obtain ⟨e1, e2⟩ := w.2 hf
    rw [e1, e2]
    exact Or.inr ⟨h.2, by decide⟩
/-- the model's state at the text's end -/
def urRe (t : Nat → Int32) (n W L O : Nat) (mi lo : Int32) (N : Nat → Int64) (Lg S : Nat → Int32) (on : Nat → Int64) (op oq ow c kd : Nat → Int32) (nm : Nat → Int64) (pl to wt : Nat → Int32) : Prop := ∃ pw pz po q, urMwA t n W pw N Lg S ∧ urMoA t n O po on op oq ow c kd nm pl to wt ∧ urFin t n = (urOk q, (W, L, O), (mi, lo), pw, pz, po)
theorem urReZ {t : Nat → Int32} {n W L O : Nat} {mi lo : Int32} {N : Nat → Int64} {Lg S : Nat → Int32} {on : Nat → Int64} {op oq ow c kd : Nat → Int32} {nm : Nat → Int64} {pl to wt : Nat → Int32} (s : urRe t n W L O mi lo N Lg S on op oq ow c kd nm pl to wt) : urRes t n = urQq N W O on op c kd nm pl 16 ∧ (urFin t n).2.1.1 = W ∧ (urFin t n).2.1.2.2 = O ∧ (urFin t n).2.2.1.1 = mi ∧ (urFin t n).2.2.1.2 = lo := by
  obtain ⟨pw, pz, po, q, s1, s2, s3⟩ := s
  refine ⟨?_, by rw [s3], by rw [s3], by rw [s3], by rw [s3]⟩
  unfold urRes
  rw [s3, urThO]
  exact (urQqZ s1 s2).symm
theorem urRmE {t : Nat → Int32} {n p at_ W L O : Nat} {so va mt lt mi lo : Int32} {nm1 : Int64} {N : Nat → Int64} {Lg S : Nat → Int32} {on : Nat → Int64} {op oq ow c kd : Nat → Int32} {nm : Nat → Int64} {pl to wt : Nat → Int32} (s : urRm t n p at_ so W L O mt lt mi lo N Lg S on op oq ow c kd nm pl to wt) (h : urTm t n p at_ so va nm1) (e : so = 3) : urRe t n W L O mi lo N Lg S on op oq ow c kd nm pl to wt := by
  obtain ⟨k, pw, pz, po, s1, s2, s3, s4⟩ := s
  refine ⟨pw, pz, po, p, s2, s3, ?_⟩
  rw [← s4]
  exact urAlE ((urTmSo h).2.2.2.mp e)
/-! the model's text, line by line -/
def urRv (f g : Int32) (t : Nat → Int32) (n p at_ : Nat) (so : Int32) (W L O : Nat) (mt lt mi lo : Int32) (N : Nat → Int64) (Lg S : Nat → Int32) (on : Nat → Int64) (op oq ow c kd : Nat → Int32) (nm : Nat → Int64) (pl to wt : Nat → Int32) : Prop := (f = 0 ∧ g = -1 ∧ urRm t n p at_ so W L O mt lt mi lo N Lg S on op oq ow c kd nm pl to wt) ∨ (¬ f = 0 ∧ urIs (urFin t n).1 f g)
theorem urRv0 {t : Nat → Int32} {n p at_ : Nat} {so va : Int32} {nm1 : Int64} {ws ls ms ks os : Nat → Int32} {N : Nat → Int64} {Lg S : Nat → Int32} {on : Nat → Int64} {op oq ow c kd : Nat → Int32} {nm : Nat → Int64} {pl to wt : Nat → Int32} (e : p = urTo (urBl t) n 0) (h : urTm t n p at_ so va nm1) (e1 : ws 1 = 0) (e2 : ls 1 = 0) (e3 : ms 1 = 2) (e4 : ks 1 = 1) (e5 : os 1 = 0) : urRv 0 (-1) t n p at_ so (uN (ws 1)) (uN (ls 1)) (uN (os 1)) 0 0 (ms 1) (ks 1) N Lg S on op oq ow c kd nm pl to wt := by
  have z : uN (0 : Int32) = 0 := rfl
  rw [e1, e2, e3, e4, e5, z]
  exact Or.inl ⟨rfl, rfl, urRm0 e h⟩
section URV
variable {t : Nat → Int32} {n p at_ p' at' : Nat} {so so' va mt lt mt' lt' f g f' g' : Int32} {nm1 : Int64} {ws ws' ls ls' ms ms' ks ks' os os' : Nat → Int32} {N N' : Nat → Int64} {Lg Lg' S S' : Nat → Int32} {on on' : Nat → Int64} {op op' oq oq' ow ow' c c' kd kd' : Nat → Int32} {nm nm' : Nat → Int64} {pl pl' to to' wt wt' : Nat → Int32}
theorem urRvS (s : urRv f g t n p at_ so (uN (ws 1)) (uN (ls 1)) (uN (os 1)) mt lt (ms 1) (ks 1) N Lg S on op oq ow c kd nm pl to wt) (hf : f = 0) (k3 : ¬ so = 3) (h : urTm t n p at_ so va nm1) (ha : at_ ≤ n) (hl : uN (ls 1) < 2147483647) (ho : uN (os 1) < 2147483647) (m : urMo (urLi t n (urTf9 N 10 (uN (ws 1)) (lN (urNm 27 t n (urAd t n p)))) (urDm Lg S (uN (ws 1)) t n (urAd t n (urAd t n p))) (uN (ws 1)) (uN (ls 1)) (uN (os 1)) (¬ mt = 0) (¬ lt = 0) p) f g f' g' p') (ad : ¬ f' = 0 ∨ so' = 3 ∨ at_ < at')
    (k : f' = 0 → (urKy t n p = 0 ∧ urMw t n (urAd t n p) (uN (ws 1)) N N' Lg Lg' S S' ws' ∧ uN (ws 1) < 10 ∧ ls' = ls ∧ ms' = ms ∧ ks' = ks ∧ os' = os ∧ on' = on ∧ op' = op ∧ oq' = oq ∧ ow' = ow ∧ c' = c ∧ kd' = kd ∧ nm' = nm ∧ pl' = pl ∧ to' = to ∧ wt' = wt ∧ mt' = mt ∧ lt' = lt) ∨
      (urKy t n p = 1 ∧ ls' 1 = nI (uN (ls 1) + 1) ∧ ws' = ws ∧ N' = N ∧ Lg' = Lg ∧ S' = S ∧ ms' = ms ∧ ks' = ks ∧ os' = os ∧ on' = on ∧ op' = op ∧ oq' = oq ∧ ow' = ow ∧ c' = c ∧ kd' = kd ∧ nm' = nm ∧ pl' = pl ∧ to' = to ∧ wt' = wt ∧ mt' = mt ∧ lt' = lt) ∨
      (urKy t n p = 2 ∧ mt' = 1 ∧ ms' 1 = nI (urNu t n (urAd t n p)) ∧ ws' = ws ∧ N' = N ∧ Lg' = Lg ∧ S' = S ∧ ls' = ls ∧ ks' = ks ∧ os' = os ∧ on' = on ∧ op' = op ∧ oq' = oq ∧ ow' = ow ∧ c' = c ∧ kd' = kd ∧ nm' = nm ∧ pl' = pl ∧ to' = to ∧ wt' = wt ∧ lt' = lt) ∨
      (urKy t n p = 3 ∧ lt' = 1 ∧ ks' 1 = nI (urNu t n (urAd t n p)) ∧ ws' = ws ∧ N' = N ∧ Lg' = Lg ∧ S' = S ∧ ls' = ls ∧ ms' = ms ∧ os' = os ∧ on' = on ∧ op' = op ∧ oq' = oq ∧ ow' = ow ∧ c' = c ∧ kd' = kd ∧ nm' = nm ∧ pl' = pl ∧ to' = to ∧ wt' = wt ∧ mt' = mt) ∨
      (urKy t n p = 4 ∧ urOm t n (urAd t n p) (uN (os 1)) on' op' oq' ow' c' kd' nm' pl' to' wt' os' ∧ urFz (uN (os 1)) on on' op op' oq oq' ow ow' c c' kd kd' nm nm' pl pl' to to' wt wt' os os' ∧ ws' = ws ∧ N' = N ∧ Lg' = Lg ∧ S' = S ∧ ls' = ls ∧ ms' = ms ∧ ks' = ks ∧ mt' = mt ∧ lt' = lt)) :
    urRv f' g' t n p' at' so' (uN (ws' 1)) (uN (ls' 1)) (uN (os' 1)) mt' lt' (ms' 1) (ks' 1) N' Lg' S' on' op' oq' ow' c' kd' nm' pl' to' wt' := by
  rcases s with ⟨_, hg, s⟩ | ⟨s, _⟩
  · by_cases c0 : f' = 0
    · have z : urLi t n (urTf9 N 10 (uN (ws 1)) (lN (urNm 27 t n (urAd t n p)))) (urDm Lg S (uN (ws 1)) t n (urAd t n (urAd t n p))) (uN (ws 1)) (uN (ls 1)) (uN (os 1)) (¬ mt = 0) (¬ lt = 0) p = urOk p' ∧ g' = g := by
        rcases m.2 hf with q | q
        · exact absurd c0 q.2
        · exact ⟨q.2.2, q.2.1⟩
      have ad2 : so' = 3 ∨ at_ < at' := ad.resolve_left (fun q => q c0)
      refine Or.inl ⟨c0, z.2.trans hg, ?_⟩
      have r := z.1
      rcases k c0 with ⟨k1, k2, k3', a1, a2, a3, a4, a5, a6, a7, a8, a9, a10, a11, a12, a13, a14, a15, a16⟩ | ⟨k1, k2, a1, a2, a3, a4, a5, a6, a7, a8, a9, a10, a11, a12, a13, a14, a15, a16, a17, a18, a19⟩ | ⟨k1, k2, k3', a1, a2, a3, a4, a5, a6, a7, a8, a9, a10, a11, a12, a13, a14, a15, a16, a17, a18⟩ | ⟨k1, k2, k3', a1, a2, a3, a4, a5, a6, a7, a8, a9, a10, a11, a12, a13, a14, a15, a16, a17, a18⟩ | ⟨k1, k2, k3', a1, a2, a3, a4, a5, a6, a7, a8, a9⟩
      · have e : uN (ws' 1) = uN (ws 1) + 1 := uNe (by omega) k2.2.2.1
        rw [e]
        subst a1 a2 a3 a4 a5 a6 a7 a8 a9 a10 a11 a12 a13 a14 a15 a16
        exact urRmS0 s h ha k3 r ad2 k1 k2
      · have e : uN (ls' 1) = uN (ls 1) + 1 := uNe (by omega) k2
        rw [e]
        subst a1 a2 a3 a4 a5 a6 a7 a8 a9 a10 a11 a12 a13 a14 a15 a16 a17 a18 a19
        exact urRmS1 s h ha k3 r ad2 k1
      · subst a1 a2 a3 a4 a5 a6 a7 a8 a9 a10 a11 a12 a13 a14 a15 a16 a17 a18
        exact urRmS2 s h ha k3 r ad2 k1 k2 k3'
      · subst a1 a2 a3 a4 a5 a6 a7 a8 a9 a10 a11 a12 a13 a14 a15 a16 a17 a18
        exact urRmS3 s h ha k3 r ad2 k1 k2 k3'
      · have e : uN (os' 1) = uN (os 1) + 1 := uNe (by omega) k2.2.2.2.2.2.2.2
        rw [e]
        subst a1 a2 a3 a4 a5 a6 a7 a8 a9
        exact urRmS4 s h ha k3 r ad2 k1 k2 k3'
    · refine Or.inr ⟨c0, ?_⟩
      rcases m.2 hf with q | q
      · exact urRmF s h ha k3 q
      · exact absurd q.1 c0
  · exact absurd hf s
end URV
section URW
variable {t : Nat → Int32} {n p at_ : Nat} {so va mt lt f g : Int32} {nm1 : Int64} {ws ls ms ks os : Nat → Int32} {N : Nat → Int64} {Lg S : Nat → Int32} {on : Nat → Int64} {op oq ow c kd : Nat → Int32} {nm : Nat → Int64} {pl to wt : Nat → Int32}
/-- the text is at its end, or it has a fault -/
theorem urRvF {W L O : Nat} {mi lo : Int32} (s : urRv f g t n p at_ so W L O mt lt mi lo N Lg S on op oq ow c kd nm pl to wt) (hf : ¬ f = 0) : urIs (urRes t n) f g := by
  rcases s with s | s
  · exact absurd s.1 hf
  · exact urResF s.2
theorem urRvE {W L O : Nat} {mi lo : Int32} (s : urRv f g t n p at_ so W L O mt lt mi lo N Lg S on op oq ow c kd nm pl to wt) (hf : f = 0) (k3 : so = 3) (h : urTm t n p at_ so va nm1) : g = -1 ∧ urRe t n W L O mi lo N Lg S on op oq ow c kd nm pl to wt := by
  rcases s with s | s
  · exact ⟨s.2.1, urRmE s.2.2 h k3⟩
  · exact absurd hf s.1
/-- the answer of the model -/
theorem urRzF {W L O : Nat} {mi lo f1 g1 : Int32} (e : urRe t n W L O mi lo N Lg S on op oq ow c kd nm pl to wt) (z : urRz (urQq N W O on op c kd nm pl 16) f g f1 g1) (hf : f = 0) (h : ¬ f1 = 0) : urIs (urRes t n) f1 g1 := by
  rcases z with z | z
  · exact absurd (z.1.trans hf) h
  · exact urIsE (urReZ e).1 z
theorem urRzO {W L O : Nat} {mi lo f1 g1 : Int32} (e : urRe t n W L O mi lo N Lg S on op oq ow c kd nm pl to wt) (z : urRz (urQq N W O on op c kd nm pl 16) f g f1 g1) (h : f1 = 0) : urRes t n = urOk 0 ∧ g1 = g := by
  rcases z with z | z
  · exact ⟨(urReZ e).1.trans z.2.2, z.2.1⟩
  · exact absurd h z.2
end URW
/-! the answer to 'rules', on both sides -/
def urG (x : Int32) (n : Nat) : Prop := ¬ x < 0 ∧ x ≤ nI n
def urOu (G : Prop) (F : urR) (R : Int32 × Int32 × Nat) (a b w o m k r a' b' w' o' m' k' : Int32) : Prop := (¬ G ∧ r = -2 ∧ a' = a ∧ b' = b ∧ w' = w ∧ o' = o ∧ m' = m ∧ k' = k) ∨ (G ∧ r = -1 ∧ urIs R a' b' ∧ w' = w ∧ o' = o ∧ m' = m ∧ k' = k) ∨ (G ∧ R = urOk 0 ∧ r = nI F.2.1.1 ∧ a' = 0 ∧ b' = -1 ∧ w' = nI F.2.1.1 ∧ o' = nI F.2.1.2.2 ∧ m' = F.2.2.1.1 ∧ k' = F.2.2.1.2)
theorem urOuU {G : Prop} {F : urR} {R : Int32 × Int32 × Nat} {a b w o m k r a' b' w' o' m' k' r2 a2 b2 w2 o2 m2 k2 : Int32} (h : urOu G F R a b w o m k r a' b' w' o' m' k') (h2 : urOu G F R a b w o m k r2 a2 b2 w2 o2 m2 k2) : r = r2 ∧ a' = a2 ∧ b' = b2 ∧ w' = w2 ∧ o' = o2 ∧ m' = m2 ∧ k' = k2 := by
  rcases h with ⟨g, e1, e2, e3, e4, e5, e6, e7⟩ | ⟨g, e1, e2, e4, e5, e6, e7⟩ | ⟨g, e0, e1, e2, e3, e4, e5, e6, e7⟩ <;> rcases h2 with ⟨g', i1, i2, i3, i4, i5, i6, i7⟩ | ⟨g', i1, i2, i4, i5, i6, i7⟩ | ⟨g', i0, i1, i2, i3, i4, i5, i6, i7⟩
  · exact ⟨e1.trans i1.symm, e2.trans i2.symm, e3.trans i3.symm, e4.trans i4.symm, e5.trans i5.symm, e6.trans i6.symm, e7.trans i7.symm⟩
  · exact absurd g' g
  · exact absurd g' g
  · exact absurd g g'
  · have z := e2.1.symm.trans i2.1
    exact ⟨e1.trans i1.symm, congrArg (fun q => q.1) z, congrArg (fun q => q.2.1) z, e4.trans i4.symm, e5.trans i5.symm, e6.trans i6.symm, e7.trans i7.symm⟩
  · exact absurd i0 (urIsN e2)
  · exact absurd g g'
  · exact absurd e0 (urIsN i2)
  · exact ⟨e1.trans i1.symm, e2.trans i2.symm, e3.trans i3.symm, e4.trans i4.symm, e5.trans i5.symm, e6.trans i6.symm, e7.trans i7.symm⟩
theorem urOu0 {G : Prop} {F : urR} {R : Int32 × Int32 × Nat} {a b w o m k : Int32} (g : ¬ G) : urOu G F R a b w o m k (-2) a b w o m k := Or.inl ⟨g, rfl, rfl, rfl, rfl, rfl, rfl, rfl⟩
theorem urOuF {G : Prop} {F : urR} {R : Int32 × Int32 × Nat} {a b w o m k a' b' w' o' m' k' : Int32} (g : G) (z : urIs R a' b') (e : w' = w ∧ o' = o ∧ m' = m ∧ k' = k) : urOu G F R a b w o m k (-1) a' b' w' o' m' k' := Or.inr (Or.inl ⟨g, rfl, z, e⟩)
theorem urOuO {G : Prop} {t : Nat → Int32} {n W L O : Nat} {a b w o m k r a' b' w' o' m' k' mi lo g1 f : Int32} {N : Nat → Int64} {Lg S : Nat → Int32} {on : Nat → Int64} {op oq ow c kd : Nat → Int32} {nm : Nat → Int64} {pl to wt : Nat → Int32} (g : G) (e : urRe t n W L O mi lo N Lg S on op oq ow c kd nm pl to wt) (z : urRz (urQq N W O on op c kd nm pl 16) f g1 a' b') (h : a' = 0) (e1 : g1 = -1) (r1 : r = w') (w1 : w' = nI W) (o1 : o' = nI O) (m1 : m' = mi) (k1 : k' = lo) : urOu G (urFin t n) (urRes t n) a b w o m k r a' b' w' o' m' k' := by
  obtain ⟨q1, q2⟩ := urRzO e z h
  obtain ⟨_, i1, i2, i3, i4⟩ := urReZ e
  exact Or.inr (Or.inr ⟨g, q1, by rw [i1]; exact r1.trans w1, h, q2.trans e1, by rw [i1]; exact w1, by rw [i2]; exact o1, by rw [i3]; exact m1, by rw [i4]; exact k1⟩)
theorem urOuC {G : Prop} {F : urR} {R : Int32 × Int32 × Nat} {a b w o m k r a' b' m' k' : Int32} {W O : Nat} (g : G) (q : R = urOk 0) (s : urFs a' b') (r1 : r = nI W) (w1 : W = F.2.1.1) (o1 : O = F.2.1.2.2) (m1 : m' = F.2.2.1.1) (k1 : k' = F.2.2.1.2) : urOu G F R a b w o m k r a' b' (nI W) (nI O) m' k' := Or.inr (Or.inr ⟨g, q, by rw [← w1]; exact r1, s.1, s.2, by rw [← w1], by rw [← o1], m1, k1⟩)
/-! the tape's bytes -/
def uBv (x : Int32) (j : Nat) : Int32 := (x >>> ((nI (24 - (8 * (j % 4)))) &&& 31)) &&& 255
def uSx (x0 x1 x2 x3 x4 : Int32) (i : Nat) : Int32 := if i < 4 then x0 else if i < 8 then x1 else if i < 12 then x2 else if i < 16 then x3 else x4
def uFe (t : Nat → Int32) (n : Nat) (x0 x1 x2 x3 x4 : Int32) (j : Nat) : Nat → Int32 := fun k => if n ≤ k ∧ k < n + j then uBv (uSx x0 x1 x2 x3 x4 (k - n)) (k - n) else t k
def uA4 (t : Nat → Int32) (n : Nat) (x : Int32) : Nat → Int32 := upd (upd (upd (upd t n (uBv x 0)) (n + 1) (uBv x 1)) ((n + 1) + 1) (uBv x 2)) (((n + 1) + 1) + 1) (uBv x 3)
section UFE
variable {t : Nat → Int32} {n j : Nat} {x0 x1 x2 x3 x4 x : Int32}
theorem uSx0 (h : j < 4) : uSx x0 x1 x2 x3 x4 j = x0 := if_pos h
theorem uSx1 (h : ¬ j < 4) (k : j < 8) : uSx x0 x1 x2 x3 x4 j = x1 := by unfold uSx; rw [if_neg h, if_pos k]
theorem uSx2 (h : ¬ j < 8) (k : j < 12) : uSx x0 x1 x2 x3 x4 j = x2 := by unfold uSx; rw [if_neg (by omega), if_neg h, if_pos k]
theorem uSx3 (h : ¬ j < 12) (k : j < 16) : uSx x0 x1 x2 x3 x4 j = x3 := by unfold uSx; rw [if_neg (by omega), if_neg (by omega), if_neg h, if_pos k]
theorem uSx4 (h : ¬ j < 16) : uSx x0 x1 x2 x3 x4 j = x4 := by unfold uSx; rw [if_neg (by omega), if_neg (by omega), if_neg (by omega), if_neg h]
theorem uFe0 : uFe t n x0 x1 x2 x3 x4 0 = t := by
  funext k
  exact if_neg (fun z => by omega)
theorem uFeS (e : uSx x0 x1 x2 x3 x4 j = x) : upd (uFe t n x0 x1 x2 x3 x4 j) (n + j) (uBv x j) = uFe t n x0 x1 x2 x3 x4 (j + 1) := by
  funext k
  unfold upd uFe
  by_cases c : k = n + j
  · subst c
    rw [if_pos rfl, if_pos ⟨by omega, by omega⟩, show n + j - n = j by omega, e]
  · by_cases d : n ≤ k ∧ k < n + j
    · rw [if_neg c, if_pos d, if_pos ⟨d.1, by omega⟩]
    · rw [if_neg c, if_neg d, if_neg (fun z => d ⟨z.1, by omega⟩)]
theorem uBvM {i : Nat} (m : j % 4 = 0) (h : i < 4) : uBv x (j + i) = uBv x i := by
  unfold uBv
  rw [show (j + i) % 4 = i % 4 by omega]
theorem uA4E {n' : Nat} (h : n' = n + j) (m : j % 4 = 0) (e : ∀ i, i < 4 → uSx x0 x1 x2 x3 x4 (j + i) = x) : uA4 (uFe t n x0 x1 x2 x3 x4 j) n' x = uFe t n x0 x1 x2 x3 x4 (j + 4) := by
  subst h
  unfold uA4
  rw [← uBvM (x := x) (i := 1) m (by decide), ← uBvM (x := x) (i := 2) m (by decide), ← uBvM (x := x) (i := 3) m (by decide), ← uBvM (x := x) (i := 0) m (by decide)]
  rw [show n + j + 1 = n + (j + 1) by omega, show n + (j + 1) + 1 = n + (j + 2) by omega, show n + (j + 2) + 1 = n + (j + 3) by omega, Nat.add_zero]
  rw [uFeS (show uSx x0 x1 x2 x3 x4 j = x from e 0 (by decide)), uFeS (e 1 (by decide)), uFeS (e 2 (by decide)), uFeS (e 3 (by decide))]
theorem uA4F {t1 t2 t3 t4 t5 : Nat → Int32} {n1 n2 n3 n4 : Nat} (a1 : t1 = uA4 t n x0) (s1 : n1 = n + 4) (a2 : t2 = uA4 t1 n1 x1) (s2 : n2 = n1 + 4) (a3 : t3 = uA4 t2 n2 x2) (s3 : n3 = n2 + 4) (a4 : t4 = uA4 t3 n3 x3) (s4 : n4 = n3 + 4) (a5 : t5 = uA4 t4 n4 x4) : t5 = uFe t n x0 x1 x2 x3 x4 20 := by
  rw [a5, a4, a3, a2, a1]
  rw [show uA4 t n x0 = uA4 (uFe t n x0 x1 x2 x3 x4 0) n x0 by rw [uFe0]]
  rw [uA4E (j := 0) (by omega) (by decide) (fun i hi => uSx0 (by omega)), uA4E (j := 4) (by omega) (by decide) (fun i hi => uSx1 (by omega) (by omega)), uA4E (j := 8) (by omega) (by decide) (fun i hi => uSx2 (by omega) (by omega)), uA4E (j := 12) (by omega) (by decide) (fun i hi => uSx3 (by omega) (by omega)), uA4E (j := 16) (by omega) (by decide) (fun i hi => uSx4 (by omega))]
end UFE
/-! what the answers to 'fault' and 'count' are, and the two states' agreement -/
def urEq (a b : Int32) (w o : Nat) (m k a' b' : Int32) (fw fo fm fk : Nat → Int32) : Prop := a = a' ∧ b = b' ∧ nI w = fw 0 ∧ nI o = fo 0 ∧ m = fm 0 ∧ k = fk 0
theorem urEqS {G : Prop} {F : urR} {R : Int32 × Int32 × Nat} {a b m k a' b' r r2 a1 b1 m1 k1 a2 b2 : Int32} {w o w1 o1 : Nat} {fw fo fm fk fw2 fo2 fm2 fk2 : Nat → Int32} (g : urEq a b w o m k a' b' fw fo fm fk) (h1 : urOu G F R a b (nI w) (nI o) m k r a1 b1 (nI w1) (nI o1) m1 k1) (h2 : urOu G F R a' b' (fw 0) (fo 0) (fm 0) (fk 0) r2 a2 b2 (fw2 0) (fo2 0) (fm2 0) (fk2 0)) : r = r2 ∧ urEq a1 b1 w1 o1 m1 k1 a2 b2 fw2 fo2 fm2 fk2 := by
  obtain ⟨e1, e2, e3, e4, e5, e6⟩ := g
  rw [e1, e2, e3, e4, e5, e6] at h1
  exact urOuU h1 h2
/-! the class's key names, as its constructor leaves them -/
def uKw (j : Nat) : Nat := (List.range 13).foldl (fun a i => if urKs (i + 1) ≤ j then a + 1 else a) 0
def uKv (j i : Nat) : Int64 := lN (urNC 32 urCh (urKs i) (min (urKl i) (j - urKs i)))
set_option maxRecDepth 100000 in
theorem uKd0 : ∀ j : Nat, j < 65 → (uKw j < 13 ∧ (urCh j = 32 → uKw (j + 1) = uKw j + 1) ∧ (¬ urCh j = 32 → uKw (j + 1) = uKw j)) := by decide +kernel
set_option maxRecDepth 100000 in
theorem uKd1 : ∀ j : Nat, j < 65 → ∀ i : Nat, i < 13 → ((urCh j = 32 ∨ ¬ i = uKw j) → min (urKl i) (j + 1 - urKs i) = min (urKl i) (j - urKs i)) := by decide +kernel
set_option maxRecDepth 100000 in
theorem uKd2 : ∀ j : Nat, j < 65 → (¬ urCh j = 32 → uKv (j + 1) (uKw j) = uKv j (uKw j) * 32 + ((urCh j - 97) + 1).toInt64) := by decide +kernel
set_option maxRecDepth 100000 in
theorem uKd3 : ∀ i : Nat, i < 13 → (0 : Int64) = uKv 0 i := by decide +kernel
set_option maxRecDepth 100000 in
theorem uKd4 : ∀ i : Nat, i < 13 → min (urKl i) (65 - urKs i) = urKl i := by decide +kernel
def uKi (f : Nat → Int64) (j k : Nat) : Prop := k = uKw j ∧ ∀ i, i < 13 → f i = uKv j i
theorem uKi0 : uKi (fun _ => 0) 0 0 := ⟨by decide +kernel, fun i hi => uKd3 i hi⟩
theorem uKiB {f : Nat → Int64} {j k : Nat} (h : uKi f j k) (hj : j < 65) (c : urCh j = 32) : uKi f (j + 1) (k + 1) := by
  refine ⟨?_, fun i hi => ?_⟩
  · rw [h.1, (uKd0 j hj).2.1 c]
  · rw [h.2 i hi]
    unfold uKv
    rw [uKd1 j hj i hi (Or.inl c)]
theorem uKiL {f : Nat → Int64} {j k : Nat} (h : uKi f j k) (hj : j < 65) (c : ¬ urCh j = 32) : uKi (vp_updL f k (f k * 32 + ((urCh j - 97) + 1).toInt64)) (j + 1) k := by
  refine ⟨?_, fun i hi => ?_⟩
  · rw [h.1, (uKd0 j hj).2.2 c]
  · by_cases e : i = k
    · have hk : k < 13 := by
        rw [← e]
        exact hi
      rw [e, pk_uLs, h.2 k hk, h.1, uKd2 j hj c]
    · have d : ¬ i = uKw j := fun q => e (q.trans h.1.symm)
      rw [pk_uLn e, h.2 i hi]
      unfold uKv
      rw [uKd1 j hj i hi (Or.inr d)]
theorem uKiD {f : Nat → Int64} {j k : Nat} (h : uKi f j k) (hj : j < 65) : k < 13 := by
  rw [h.1]
  exact (uKd0 j hj).1
theorem uKiE {f : Nat → Int64} {j k : Nat} (h : uKi f j k) (h1 : 65 ≤ j) (h2 : j ≤ 65) : urKn f := by
  obtain rfl : j = 65 := by omega
  intro i hi
  rw [h.2 i hi]
  unfold uKv
  rw [uKd4 i hi]

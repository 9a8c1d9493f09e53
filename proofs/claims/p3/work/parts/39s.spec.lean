noncomputable def uIte {α : Type} (P : Prop) (a b : α) : α := @ite α P (Classical.propDecidable P) a b
theorem uItP {α : Type} {P : Prop} {a b : α} (h : P) : uIte P a b = a := by unfold uIte; exact if_pos h
theorem uItN {α : Type} {P : Prop} {a b : α} (h : ¬ P) : uIte P a b = b := by unfold uIte; exact if_neg h
def uN (x : Int32) : Nat := x.toInt.toNat
theorem uNe {x : Int32} {a : Nat} (h : a < 2 ^ 31) (e : x = nI a) : uN x = a := by rw [e]; exact congrArg Int.toNat (nI_toInt h)
def uInL (x y : Int32) (w h : Nat) : Prop := (0 ≤ x.toInt ∧ x.toInt < (w : Int)) ∧ (0 ≤ y.toInt ∧ y.toInt < (h : Int))
def uDL (x y : Int32) : Prop := (4 ≤ x.toInt ∧ x.toInt ≤ 16) ∧ (4 ≤ y.toInt ∧ y.toInt ≤ 16)
def uDG (a b c d e f : Int32) (w h : Nat) : Prop := (0 ≤ a.toInt ∧ a.toInt ≤ c.toInt ∧ c.toInt < (w : Int)) ∧ (0 ≤ b.toInt ∧ b.toInt ≤ d.toInt ∧ d.toInt < (h : Int)) ∧ 0 ≤ e.toInt ∧ e.toInt ≤ 999 ∧ 0 ≤ f.toInt ∧ f.toInt ≤ 3

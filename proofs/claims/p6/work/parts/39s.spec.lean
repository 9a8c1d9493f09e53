noncomputable def uIte {α : Type} (P : Prop) (a b : α) : α := @ite α P (Classical.propDecidable P) a b
theorem uItP {α : Type} {P : Prop} {a b : α} (h : P) : uIte P a b = a := by unfold uIte; exact if_pos h
theorem uItN {α : Type} {P : Prop} {a b : α} (h : ¬ P) : uIte P a b = b := by unfold uIte; exact if_neg h
def uN (x : Int32) : Nat := x.toInt.toNat
theorem uNe {x : Int32} {a : Nat} (h : a < 2 ^ 31) (e : x = nI a) : uN x = a := by rw [e]; exact congrArg Int.toNat (nI_toInt h)
theorem uUpE {f : Nat → Int32} {i j : Nat} {v w : Int32} (hi : i = j) (hv : v = w) : upd f i v = upd f j w := by rw [hi, hv]
def uTm (x y : Int32) : Prop := (0 ≤ x.toInt ∧ x.toInt ≤ 11) ∧ (0 ≤ y.toInt ∧ y.toInt ≤ 1)
theorem uIt01 {P : Prop} : uIte P (1 : Int32) 0 = 0 ∨ uIte P (1 : Int32) 0 = 1 := by
  by_cases h : P
  · exact Or.inr (uItP h)
  · exact Or.inl (uItN h)
def uDH (x y a b : Int32) : Prop := ((0 ≤ x.toInt ∧ x.toInt ≤ 11) ∧ (0 ≤ y.toInt ∧ y.toInt ≤ 1)) ∧ 0 ≤ a.toInt ∧ a.toInt ≤ b.toInt ∧ b.toInt ≤ 30

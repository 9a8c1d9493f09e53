theorem uI01 {c : Prop} [Decidable c] {a b : Int32} (ha : a = 0 ∨ a = 1) (hb : b = 0 ∨ b = 1) : (if c then a else b) = 0 ∨ (if c then a else b) = 1 := by
  by_cases h : c
  · rw [if_pos h]; exact ha
  · rw [if_neg h]; exact hb
theorem uG01 (x0 x1 x2 x3 x4 x5 : Int32) (h w : Nat) : twX9_lay_vc x0 x1 x2 x3 x4 x5 h w = 0 ∨ twX9_lay_vc x0 x1 x2 x3 x4 x5 h w = 1 := by
  unfold twX9_lay_vc
  repeat' first | exact Or.inl rfl | exact Or.inr rfl | apply uI01
theorem uIe0 {c : Prop} [Decidable c] {a b r : Int32} (ha : c → a = r) (hb : ¬ c → b = r) : (if c then a else b) = r := by
  by_cases h : c
  · rw [if_pos h]; exact ha h
  · rw [if_neg h]; exact hb h
theorem uIe1 {c : Prop} [Decidable c] {a b r : Int32} (ha : c → r = a) (hb : ¬ c → r = b) : r = (if c then a else b) := by
  by_cases h : c
  · rw [if_pos h]; exact ha h
  · rw [if_neg h]; exact hb h
set_option maxHeartbeats 4000000 in
theorem uGeq (x0 x1 x2 x3 x4 x5 : Int32) (h w : Nat) (hh : h ≤ 16 ∧ w ≤ 16) : twX9_lay_vc x0 x1 x2 x3 x4 x5 h w = twX12_ground_vc x0 x1 x2 x3 x4 x5 h w := by
  unfold twX9_lay_vc twX12_ground_vc
  have e1 : (nI h).toInt = (h : Int) := nI_toInt (by omega)
  have e2 : (nI w).toInt = (w : Int) := nI_toInt (by omega)
  repeat' first | rfl | (refine uIe0 (fun _ => ?_) (fun _ => ?_)) | (refine uIe1 (fun _ => ?_) (fun _ => ?_))
  all_goals (exfalso; simp only [fa_lt, fa_le, fa_eq, Int32.reduceToInt] at *; omega)


theorem urToL {P : Nat → Prop} {n p : Nat} (h : p ≤ n) : urTo P n p ≤ n := by
  have k := (urToR (P := P) (n := n) (p := p)).2.1
  omega
theorem urNxL {t : Nat → Int32} {n p : Nat} (hp : p ≤ n) : urNx t n p ≤ n := by
  by_cases h : n ≤ p
  · rw [urNx0 h]; exact hp
  · by_cases l : urLt t p
    · rw [urNx1 h l]; exact urToL hp
    · by_cases d : urDg t p
      · rw [urNx2 h l d]; exact urToL hp
      · rw [urNx3 h l d]; omega
theorem urTmL {t : Nat → Int32} {n p a : Nat} {so va : Int32} {nm : Int64} (h : urTm t n p a so va nm) (k : ¬ so = 3) : a ≤ n := by
  have e := h.1
  have s := h.2.1
  by_cases c : n ≤ p
  · rw [urKd0 c] at s
    exact absurd (s.trans ((urSoE (k := 0) (by decide)).2.2.2.mpr rfl)) k
  · rw [e]; exact urNxL (by omega)

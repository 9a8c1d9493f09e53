theorem urOiC2 {g0 fa ga : Int32} {t : Nat → Int32} {n p1 b p e q a : Nat} {c' : Int32} {ac' : Nat → Int32} {nm' : Nat → Int64} {pl' po' nu' : Nat → Int32} (h : (¬ fa = 0 ∧ urIs (urOr1 t n p1) fa ga) ∨ (fa = 0 ∧ ga = g0 ∧ urOh1 t n p1 = urOk (urOe1 t n p1) ∧ urAi t n (urOe1 t n p1) a p ∧ urAa t n a p = urOk e ∧ c' = nI (a + 1) ∧ urSsM t n (urOe1 t n p1) b (a + 1) ac' nm' pl' po' nu')) (hf : fa = 0) (k : urKd t n e = 4) (eq : q = urAd t n e) : urOi fa ga g0 1 t n p1 b q c' ac' nm' pl' po' nu' := by
  rcases h with h | ⟨h1, h2, h3, h4, h5, h6, h7⟩
  · exact absurd hf h.1
  · exact Or.inr (Or.inl ⟨h1, h2, h3, rfl, a + 1, h6, urAiS h4 h5 k eq, h7⟩)

/-! the least function above a start that grows along a relation, in 24 rounds -/
def uMon (R : Nat → Nat → Prop) (h : Nat → Nat) : Prop := ∀ u v, R u v → h u ≤ h v
def uAbv (a h : Nat → Nat) : Prop := ∀ v, v < 24 → a v ≤ h v
def uLea (R : Nat → Nat → Prop) (a F : Nat → Nat) : Prop := uAbv a F ∧ uMon R F ∧ ∀ H, uAbv a H → uMon R H → uAbv F H
theorem uMinEx {P : Nat → Prop} (m : Nat) : P m → ∃ k, P k ∧ ∀ j, P j → k ≤ j := by
  induction m using Nat.strongRecOn with
  | ind m ih =>
    intro hm
    by_cases h : ∃ j, j < m ∧ P j
    · obtain ⟨j, hj, pj⟩ := h
      exact ih j hj pj
    · refine ⟨m, hm, fun j pj => ?_⟩
      by_cases q : m ≤ j
      · exact q
      · exact absurd ⟨j, by omega, pj⟩ h
theorem uLeaEx (R : Nat → Nat → Prop) (a : Nat → Nat) {B : Nat} (h0 : ∀ v, v < 24 → a v ≤ B) : ∃ F, uLea R a F := by
  have key : ∀ v, ∃ k, (∃ H, (uAbv a H ∧ uMon R H) ∧ H v = k) ∧ ∀ j, (∃ H, (uAbv a H ∧ uMon R H) ∧ H v = j) → k ≤ j := fun v =>
    uMinEx (P := fun k => ∃ H, (uAbv a H ∧ uMon R H) ∧ H v = k) B ⟨fun _ => B, ⟨h0, fun _ _ _ => Nat.le_refl _⟩, rfl⟩
  refine ⟨fun v => Classical.choose (key v), ?_, ?_, ?_⟩
  · intro v hv
    obtain ⟨⟨H, ⟨h1, h2⟩, e⟩, -⟩ := Classical.choose_spec (key v)
    have := h1 v hv
    omega
  · intro u v r
    obtain ⟨⟨H, ⟨h1, h2⟩, e⟩, -⟩ := Classical.choose_spec (key v)
    have q := (Classical.choose_spec (key u)).2 (H u) ⟨H, ⟨h1, h2⟩, rfl⟩
    have := h2 u v r
    omega
  · intro H h1 h2 v hv
    exact (Classical.choose_spec (key v)).2 (H v) ⟨H, ⟨h1, h2⟩, rfl⟩
theorem uLeaU {R : Nat → Nat → Prop} {a F G : Nat → Nat} (h : uLea R a F) (q : uLea R a G) : ∀ v, v < 24 → F v = G v := fun v hv => Nat.le_antisymm (h.2.2 G q.1 q.2.1 v hv) (q.2.2 F h.1 h.2.1 v hv)
def uCnt (l F : Nat → Nat) : Nat → Nat
  | 0 => 0
  | n + 1 => uCnt l F n + (if l n < F n then 1 else 0)
theorem uCntM {l l' F : Nat → Nat} : ∀ n, (∀ v, v < n → l v ≤ l' v) → uCnt l' F n ≤ uCnt l F n ∧ (uCnt l' F n = uCnt l F n → ∀ v, v < n → l v < F v → l' v < F v)
  | 0, _ => ⟨Nat.le_refl _, fun _ v hv => absurd hv (Nat.not_lt_zero v)⟩
  | n + 1, h => by
    obtain ⟨i1, i2⟩ := uCntM (l := l) (l' := l') (F := F) n (fun v hv => h v (by omega))
    have hn := h n (by omega)
    show uCnt l' F n + (if l' n < F n then 1 else 0) ≤ uCnt l F n + (if l n < F n then 1 else 0) ∧ (uCnt l' F n + (if l' n < F n then 1 else 0) = uCnt l F n + (if l n < F n then 1 else 0) → ∀ v, v < n + 1 → l v < F v → l' v < F v)
    by_cases c' : l' n < F n
    · rw [if_pos c', if_pos (show l n < F n by omega)]
      refine ⟨by omega, fun e v hv q => ?_⟩
      by_cases ev : v = n
      · rw [ev]; exact c'
      · exact i2 (by omega) v (by omega) q
    · rw [if_neg c']
      by_cases c : l n < F n
      · rw [if_pos c]
        exact ⟨by omega, fun e => absurd e (by omega)⟩
      · rw [if_neg c]
        refine ⟨by omega, fun e v hv q => ?_⟩
        by_cases ev : v = n
        · rw [ev] at q; exact absurd q c
        · exact i2 (by omega) v (by omega) q
theorem uCntB {l F : Nat → Nat} : ∀ n, uCnt l F n ≤ n
  | 0 => Nat.le_refl _
  | n + 1 => by
    have := uCntB (l := l) (F := F) n
    show uCnt l F n + (if l n < F n then 1 else 0) ≤ n + 1
    split <;> omega
theorem uCnt0 {l F : Nat → Nat} : ∀ n, uCnt l F n = 0 → ∀ v, v < n → ¬ l v < F v
  | 0, _ => fun v hv => absurd hv (Nat.not_lt_zero v)
  | n + 1, h => by
    have h : uCnt l F n + (if l n < F n then 1 else 0) = 0 := h
    intro v hv q
    by_cases c : l n < F n
    · rw [if_pos c] at h; omega
    · rw [if_neg c] at h
      by_cases ev : v = n
      · rw [ev] at q; exact c q
      · exact uCnt0 n (by omega) v (by omega) q
theorem uRound {R : Nat → Nat → Prop} {a F l l' : Nat → Nat} (hR : ∀ u v, R u v → u < 24 ∧ v < 24) (hF : uLea R a F) (h1 : uAbv a l) (h2 : uAbv l l') (h3 : uAbv l' F) (hp : ∀ u v, R u v → l u ≤ l' v) : uCnt l' F 24 < uCnt l F 24 ∨ ∀ v, v < 24 → l' v = F v := by
  obtain ⟨m1, m2⟩ := uCntM (l := l) (l' := l') (F := F) 24 h2
  by_cases hc : uCnt l' F 24 < uCnt l F 24
  · exact Or.inl hc
  · right
    have same := m2 (by omega)
    have lF : ∀ v, v < 24 → l v ≤ F v := fun v hv => Nat.le_trans (h2 v hv) (h3 v hv)
    have big : uAbv F (fun v => if l v < F v then F v - 1 else F v) := by
      refine hF.2.2 _ ?_ ?_
      · intro v hv
        show a v ≤ (if l v < F v then F v - 1 else F v)
        have q1 := h1 v hv
        have q2 := lF v hv
        split <;> omega
      · intro u v r
        obtain ⟨hu, hv⟩ := hR u v r
        have q1 := hF.2.1 u v r
        have q2 := hp u v r
        have q3 := lF u hu
        have q4 := same v hv
        show (if l u < F u then F u - 1 else F u) ≤ (if l v < F v then F v - 1 else F v)
        by_cases c1 : l u < F u
        · rw [if_pos c1]
          by_cases c2 : l v < F v
          · rw [if_pos c2]; omega
          · rw [if_neg c2]; omega
        · rw [if_neg c1]
          by_cases c2 : l v < F v
          · have := q4 c2
            rw [if_pos c2]; omega
          · rw [if_neg c2]; exact q1
    intro v hv
    have b := big v hv
    have b : F v ≤ (if l v < F v then F v - 1 else F v) := b
    have q2 := lF v hv
    have q3 := h2 v hv
    have q4 := h3 v hv
    by_cases c : l v < F v
    · rw [if_pos c] at b; omega
    · omega

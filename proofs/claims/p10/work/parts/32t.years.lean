/-! the least function above a start that grows along a relation, in 24 rounds -/
def uMon (R : Nat → Nat → Prop) (h : Nat → Nat) : Prop := ∀ u v, R u v → h u ≤ h v
def uAbv (a h : Nat → Nat) : Prop := ∀ v, v < 24 → a v ≤ h v
def uLea (R : Nat → Nat → Prop) (a F : Nat → Nat) : Prop := uAbv a F ∧ uMon R F ∧ ∀ H, uAbv a H → uMon R H → uAbv F H
theorem uMinEx {P : Nat → Prop} (m : Nat) : P m → ∃ k, P k ∧ ∀ j, P j → k ≤ j := by
  induction m using Nat.strongRecOn with
  | ind m ih =>
    intro hm
    by_cases h : ∃ j, j < m ∧ P j
    · obtain ⟨j, hj, pj⟩ := h
      exact ih j hj pj
    · refine ⟨m, hm, fun j pj => ?_⟩
      by_cases q : m ≤ j
      · exact q
      · exact absurd ⟨j, by omega, pj⟩ h
theorem uLeaEx (R : Nat → Nat → Prop) (a : Nat → Nat) {B : Nat} (h0 : ∀ v, v < 24 → a v ≤ B) : ∃ F, uLea R a F := by
  have key : ∀ v, ∃ k, (∃ H, (uAbv a H ∧ uMon R H) ∧ H v = k) ∧ ∀ j, (∃ H, (uAbv a H ∧ uMon R H) ∧ H v = j) → k ≤ j := fun v =>
    uMinEx (P := fun k => ∃ H, (uAbv a H ∧ uMon R H) ∧ H v = k) B ⟨fun _ => B, ⟨h0, fun _ _ _ => Nat.le_refl _⟩, rfl⟩
  refine ⟨fun v => Classical.choose (key v), ?_, ?_, ?_⟩
  · intro v hv
    obtain ⟨⟨H, ⟨h1, h2⟩, e⟩, -⟩ := Classical.choose_spec (key v)
    have := h1 v hv
    show a v ≤ Classical.choose (key v)
    omega
  · intro u v r
    obtain ⟨⟨H, ⟨h1, h2⟩, e⟩, -⟩ := Classical.choose_spec (key v)
    have q := (Classical.choose_spec (key u)).2 (H u) ⟨H, ⟨h1, h2⟩, rfl⟩
    have := h2 u v r
    show Classical.choose (key u) ≤ Classical.choose (key v)
    omega
  · intro H h1 h2 v hv
    exact (Classical.choose_spec (key v)).2 (H v) ⟨H, ⟨h1, h2⟩, rfl⟩
theorem uLeaU {R : Nat → Nat → Prop} {a F G : Nat → Nat} (h : uLea R a F) (q : uLea R a G) : ∀ v, v < 24 → F v = G v := fun v hv => Nat.le_antisymm (h.2.2 G q.1 q.2.1 v hv) (q.2.2 F h.1 h.2.1 v hv)
def uCnt (l F : Nat → Nat) : Nat → Nat
  | 0 => 0
  | n + 1 => uCnt l F n + (if l n < F n then 1 else 0)
theorem uCntM {l l' F : Nat → Nat} : ∀ n, (∀ v, v < n → l v ≤ l' v) → uCnt l' F n ≤ uCnt l F n ∧ (uCnt l' F n = uCnt l F n → ∀ v, v < n → l v < F v → l' v < F v)
  | 0, _ => ⟨Nat.le_refl _, fun _ v hv => absurd hv (Nat.not_lt_zero v)⟩
  | n + 1, h => by
    obtain ⟨i1, i2⟩ := uCntM (l := l) (l' := l') (F := F) n (fun v hv => h v (by omega))
    have hn := h n (by omega)
    show uCnt l' F n + (if l' n < F n then 1 else 0) ≤ uCnt l F n + (if l n < F n then 1 else 0) ∧ (uCnt l' F n + (if l' n < F n then 1 else 0) = uCnt l F n + (if l n < F n then 1 else 0) → ∀ v, v < n + 1 → l v < F v → l' v < F v)
    by_cases c' : l' n < F n
    · rw [if_pos c', if_pos (show l n < F n by omega)]
      refine ⟨by omega, fun e v hv q => ?_⟩
      by_cases ev : v = n
      · rw [ev]; exact c'
      · exact i2 (by omega) v (by omega) q
    · rw [if_neg c']
      by_cases c : l n < F n
      · rw [if_pos c]
        exact ⟨by omega, fun e => absurd e (by omega)⟩
      · rw [if_neg c]
        refine ⟨by omega, fun e v hv q => ?_⟩
        by_cases ev : v = n
        · rw [ev] at q; exact absurd q c
        · exact i2 (by omega) v (by omega) q
theorem uCntB {l F : Nat → Nat} : ∀ n, uCnt l F n ≤ n
  | 0 => Nat.le_refl _
  | n + 1 => by
    have := uCntB (l := l) (F := F) n
    show uCnt l F n + (if l n < F n then 1 else 0) ≤ n + 1
    split <;> omega
theorem uCnt0 {l F : Nat → Nat} : ∀ n, uCnt l F n = 0 → ∀ v, v < n → ¬ l v < F v
  | 0, _ => fun v hv => absurd hv (Nat.not_lt_zero v)
  | n + 1, h => by
    have h : uCnt l F n + (if l n < F n then 1 else 0) = 0 := h
    intro v hv q
    by_cases c : l n < F n
    · rw [if_pos c] at h; omega
    · rw [if_neg c] at h
      by_cases ev : v = n
      · rw [ev] at q; exact c q
      · exact uCnt0 n (by omega) v (by omega) q
theorem uRound {R : Nat → Nat → Prop} {a F l l' : Nat → Nat} (hR : ∀ u v, R u v → u < 24 ∧ v < 24) (hF : uLea R a F) (h1 : uAbv a l) (h2 : uAbv l l') (h3 : uAbv l' F) (hp : ∀ u v, R u v → l u ≤ l' v) : uCnt l' F 24 < uCnt l F 24 ∨ ∀ v, v < 24 → l' v = F v := by
  obtain ⟨m1, m2⟩ := uCntM (l := l) (l' := l') (F := F) 24 h2
  by_cases hc : uCnt l' F 24 < uCnt l F 24
  · exact Or.inl hc
  · right
    have same := m2 (by omega)
    have lF : ∀ v, v < 24 → l v ≤ F v := fun v hv => Nat.le_trans (h2 v hv) (h3 v hv)
    have big : uAbv F (fun v => if l v < F v then F v - 1 else F v) := by
      refine hF.2.2 _ ?_ ?_
      · intro v hv
        show a v ≤ (if l v < F v then F v - 1 else F v)
        have q1 := h1 v hv
        have q2 := lF v hv
        split <;> omega
      · intro u v r
        obtain ⟨hu, hv⟩ := hR u v r
        have q1 := hF.2.1 u v r
        have q2 := hp u v r
        have q3 := lF u hu
        have q4 := same v hv
        show (if l u < F u then F u - 1 else F u) ≤ (if l v < F v then F v - 1 else F v)
        by_cases c1 : l u < F u
        · rw [if_pos c1]
          by_cases c2 : l v < F v
          · rw [if_pos c2]; omega
          · rw [if_neg c2]; omega
        · rw [if_neg c1]
          by_cases c2 : l v < F v
          · have := q4 c2
            rw [if_pos c2]; omega
          · rw [if_neg c2]; exact q1
    intro v hv
    have b := big v hv
    have b : F v ≤ (if l v < F v then F v - 1 else F v) := b
    have q2 := lF v hv
    have q3 := h2 v hv
    have q4 := h3 v hv
    by_cases c : l v < F v
    · rw [if_pos c] at b; omega
    · omega
/-! runs of 'u not later than v' -/
def uIvl (R : Nat → Nat → Prop) (a : Nat → Nat) (N : Nat) (l : Nat → Nat) : Prop := (∀ v, v < N → a v ≤ l v) ∧ ∀ H, uAbv a H → uMon R H → ∀ v, v < N → l v ≤ H v
def uNl (f : Nat → Int32) (v : Nat) : Nat := uN (f v)
def uNg (g : Nat → Int32) (v : Nat) : Nat := 500 - uN (g v)
def uOp (R : Nat → Nat → Prop) (u v : Nat) : Prop := R v u
def uOkv (mv : Int32) (V : Nat → Nat → Prop) (f g : Nat → Int32) : Prop := mv = 1 ∨ ∀ u v, V u v → uNl f u ≤ uNl f v ∧ uNg g v ≤ uNg g u
/-- what a run over the pairs V does -/
def uRun (V : Nat → Nat → Prop) (f g f' g' : Nat → Int32) (mv mv' : Int32) : Prop :=
  (∀ R a N, (∀ u v, V u v → R u v ∧ u < N ∧ v < N) → N ≤ 24 → uIvl R a N (uNl f) → uIvl R a N (uNl f'))
  ∧ (∀ R a N, (∀ u v, V u v → R u v ∧ u < N ∧ v < N) → N ≤ 24 → uIvl (uOp R) a N (uNg g) → uIvl (uOp R) a N (uNg g'))
  ∧ (∀ V0, uOkv mv V0 f g → uOkv mv' (fun u v => V0 u v ∨ V u v) f' g')
  ∧ (∀ w, uNl f w ≤ uNl f' w) ∧ (∀ w, uNg g w ≤ uNg g' w)
  ∧ (∀ u v, V u v → uNl f u ≤ uNl f' v) ∧ (∀ u v, V u v → uNg g v ≤ uNg g' u)
theorem uRun0 {f g : Nat → Int32} {mv : Int32} : uRun (fun _ _ => False) f g f g mv mv :=
  ⟨fun _ _ _ _ _ h => h, fun _ _ _ _ _ h => h, fun V0 h => h.imp id (fun q u v r => r.elim (q u v) False.elim), fun _ => Nat.le_refl _, fun _ => Nat.le_refl _, fun _ _ r => r.elim, fun _ _ r => r.elim⟩
theorem uRunT {V V' : Nat → Nat → Prop} {f g f' g' f2 g2 : Nat → Int32} {m m' m2 : Int32} (h : uRun V f g f' g' m m') (q : uRun V' f' g' f2 g2 m' m2) : uRun (fun u v => V u v ∨ V' u v) f g f2 g2 m m2 := by
  obtain ⟨h1, h2, h3, h4, h5, h6, h7⟩ := h
  obtain ⟨q1, q2, q3, q4, q5, q6, q7⟩ := q
  refine ⟨fun R a N c hN i => q1 R a N (fun u v r => c u v (Or.inr r)) hN (h1 R a N (fun u v r => c u v (Or.inl r)) hN i), fun R a N c hN i => q2 R a N (fun u v r => c u v (Or.inr r)) hN (h2 R a N (fun u v r => c u v (Or.inl r)) hN i), ?_, fun w => Nat.le_trans (h4 w) (q4 w), fun w => Nat.le_trans (h5 w) (q5 w), ?_, ?_⟩
  · intro V0 i
    refine (q3 _ (h3 V0 i)).imp id (fun k u v r => k u v ?_)
    rcases r with r | r | r
    · exact Or.inl (Or.inl r)
    · exact Or.inl (Or.inr r)
    · exact Or.inr r
  · intro u v r
    rcases r with r | r
    · exact Nat.le_trans (h6 u v r) (q4 v)
    · exact Nat.le_trans (h4 u) (q6 u v r)
  · intro u v r
    rcases r with r | r
    · exact Nat.le_trans (h7 u v r) (q5 u)
    · exact Nat.le_trans (h5 v) (q7 u v r)
theorem uRunW {V V' : Nat → Nat → Prop} {f g f' g' : Nat → Int32} {m m' : Int32} (h : uRun V f g f' g' m m') (w : ∀ u v, V u v ↔ V' u v) : uRun V' f g f' g' m m' := by
  have e : V = V' := funext (fun u => funext (fun v => propext (w u v)))
  rw [← e]; exact h
theorem uN500 {f : Nat → Int32} (h : uRg f 0 500) (v : Nat) : ∃ a : Nat, a ≤ 500 ∧ f v = nI a := by
  obtain ⟨a, ha, e⟩ := uRnat h v (by decide)
  simp only [Int32.reduceToInt] at ha
  exact ⟨a, by omega, e⟩
/-- one pair -/
theorem uRun1 {f g f' g' : Nat → Int32} {u v : Nat} {mv mv' : Int32} (rf : uRg f 0 500) (rg : uRg g 0 500) (ef : ∀ w, f' w = uIte (w = v ∧ f v < f u) (f u) (f w)) (eg : ∀ w, g' w = uIte (w = u ∧ g v < g u) (g v) (g w)) (em : mv' = uIte (f v < f u ∨ g v < g u) 1 mv) : uRun (fun x y => x = u ∧ y = v) f g f' g' mv mv' := by
  obtain ⟨fu, hfu, efu⟩ := uN500 rf u
  obtain ⟨fv, hfv, efv⟩ := uN500 rf v
  obtain ⟨gu, hgu, egu⟩ := uN500 rg u
  obtain ⟨gv, hgv, egv⟩ := uN500 rg v
  have cF : f v < f u ↔ fv < fu := by rw [efu, efv]; exact nI_ltI (by omega) (by omega)
  have cG : g v < g u ↔ gv < gu := by rw [egu, egv]; exact nI_ltI (by omega) (by omega)
  have nfu : uNl f u = fu := uNe (by omega) efu
  have nfv : uNl f v = fv := uNe (by omega) efv
  have ngu : uNg g u = 500 - gu := by show 500 - uN (g u) = _; rw [uNe (by omega) egu]
  have ngv : uNg g v = 500 - gv := by show 500 - uN (g v) = _; rw [uNe (by omega) egv]
  have lF : ∀ w, uNl f' w = uNl f w ∨ (w = v ∧ fv < fu ∧ uNl f' w = fu) := by
    intro w
    by_cases c : w = v ∧ f v < f u
    · right; refine ⟨c.1, cF.mp c.2, ?_⟩
      show uN (f' w) = fu
      rw [ef w, uItP c]; exact nfu
    · left; show uN (f' w) = uN (f w)
      rw [ef w, uItN c]
  have lG : ∀ w, uNg g' w = uNg g w ∨ (w = u ∧ gv < gu ∧ uNg g' w = 500 - gv) := by
    intro w
    by_cases c : w = u ∧ g v < g u
    · right; refine ⟨c.1, cG.mp c.2, ?_⟩
      show 500 - uN (g' w) = 500 - gv
      rw [eg w, uItP c, uNe (by omega) egv]
    · left; show 500 - uN (g' w) = 500 - uN (g w)
      rw [eg w, uItN c]
  have fV : uNl f u ≤ uNl f' v := by
    rcases lF v with k | ⟨-, k1, k2⟩
    · by_cases c : fv < fu
      · have e2 : uNl f' v = fu := by
          show uN (f' v) = fu
          rw [ef v, uItP ⟨rfl, cF.mpr c⟩]; exact nfu
        omega
      · omega
    · omega
  have gU : uNg g v ≤ uNg g' u := by
    rcases lG u with k | ⟨-, k1, k2⟩
    · by_cases c : gv < gu
      · have e2 : uNg g' u = 500 - gv := by
          show 500 - uN (g' u) = 500 - gv
          rw [eg u, uItP ⟨rfl, cG.mpr c⟩, uNe (by omega) egv]
        omega
      · omega
    · omega
  have mF : ∀ w, uNl f w ≤ uNl f' w := by
    intro w
    rcases lF w with k | ⟨k0, k1, k2⟩
    · omega
    · rw [k0] at k2 ⊢; omega
  have mG : ∀ w, uNg g w ≤ uNg g' w := by
    intro w
    rcases lG w with k | ⟨k0, k1, k2⟩
    · omega
    · rw [k0] at k2 ⊢; omega
  refine ⟨?_, ?_, ?_, mF, mG, ?_, ?_⟩
  · intro R a N c hN i
    obtain ⟨r, hu, hv⟩ := c u v ⟨rfl, rfl⟩
    refine ⟨fun w hw => Nat.le_trans (i.1 w hw) (mF w), fun H h1 h2 w hw => ?_⟩
    rcases lF w with k | ⟨k0, k1, k2⟩
    · rw [k]; exact i.2 H h1 h2 w hw
    · have a1 := i.2 H h1 h2 u hu
      have a2 := h2 u v r
      rw [k2, k0]; omega
  · intro R a N c hN i
    obtain ⟨r, hu, hv⟩ := c u v ⟨rfl, rfl⟩
    refine ⟨fun w hw => Nat.le_trans (i.1 w hw) (mG w), fun H h1 h2 w hw => ?_⟩
    rcases lG w with k | ⟨k0, k1, k2⟩
    · rw [k]; exact i.2 H h1 h2 w hw
    · have a1 := i.2 H h1 h2 v hv
      have a2 := h2 v u r
      rw [k2, k0]; omega
  · intro V0 i
    by_cases c : f v < f u ∨ g v < g u
    · left; rw [em, uItP c]
    · have n1 : ¬ fv < fu := fun k => c (Or.inl (cF.mpr k))
      have n2 : ¬ gv < gu := fun k => c (Or.inr (cG.mpr k))
      rw [em, uItN c]
      rcases i with i | i
      · exact Or.inl i
      · right
        have eF : ∀ w, uNl f' w = uNl f w := fun w => (lF w).elim id (fun k => absurd k.2.1 n1)
        have eG : ∀ w, uNg g' w = uNg g w := fun w => (lG w).elim id (fun k => absurd k.2.1 n2)
        intro x y r
        rw [eF, eF, eG, eG]
        rcases r with r | ⟨r1, r2⟩
        · exact i x y r
        · rw [r1, r2, nfu, nfv, ngu, ngv]; omega
  · intro x y r
    rw [r.1, r.2]; exact fV
  · intro x y r
    rw [r.1, r.2]; exact gU

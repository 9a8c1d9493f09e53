/-! the model: how its reader goes on -/
def uJ (s : Int32) (a z : Nat) : Prop := s = 3 → z ≤ a
def uPs (f s : Int32) (a : Nat) (f' s' : Int32) (a' : Nat) : Prop := a ≤ a' ∧ (¬ f = 0 → ¬ f' = 0) ∧ (s = 3 → ¬ f' = 0 ∨ s' = 3)
theorem uPsR (f s : Int32) (a : Nat) : uPs f s a f s a := ⟨Nat.le_refl _, fun h => h, fun h => Or.inr h⟩
theorem uPsT {f s f1 s1 f2 s2 : Int32} {a a1 a2 : Nat} (h : uPs f s a f1 s1 a1) (k : uPs f1 s1 a1 f2 s2 a2) : uPs f s a f2 s2 a2 := by
  obtain ⟨h1, h2, h3⟩ := h
  obtain ⟨k1, k2, k3⟩ := k
  refine ⟨Nat.le_trans h1 k1, fun q => k2 (h2 q), fun q => ?_⟩
  rcases h3 q with e | e
  · exact Or.inl (k2 e)
  · exact k3 e
theorem uPs3 {f s : Int32} {a a' : Nat} (h : a ≤ a') : uPs f s a f 3 a' := ⟨h, fun h => h, fun _ => Or.inr rfl⟩
theorem uPsN {f s s' : Int32} {a a' z : Nat} (hJ : uJ s a z) (h : a ≤ a') (hlt : ¬ z ≤ a) : uPs f s a f s' a' := ⟨h, fun h => h, fun q => absurd (hJ q) hlt⟩
theorem uPsF {f s f' : Int32} {a : Nat} (h : ¬ f' = 0) : uPs f s a f' s a := ⟨Nat.le_refl _, fun _ => h, fun q => Or.inr q⟩
theorem uLn {f1 s1 f2 s2 f3 s3 : Int32} {a a1 a2 a3 : Nat} (h3 : s1 = 3 ∨ a < a1) (hp : uPs f1 s1 a1 f2 s2 a2) (hf : f2 = 0) (hs : s2 = 2) (h : a2 ≤ a3) : ¬ f3 = 0 ∨ s3 = 3 ∨ a < a3 := by
  obtain ⟨k1, k2, k3⟩ := hp
  rcases h3 with e | e
  · rcases k3 e with q | q
    · exact absurd hf q
    · rw [hs] at q; exact absurd q (by decide)
  · exact Or.inr (Or.inr (by omega))
def mMr (f s : Int32) (a z : Nat) : Nat := if f = 0 then (if s = 3 then 0 else z - a + 1) else 0
theorem uMrLt {f s f' s' : Int32} {a a' z n : Nat} (hf : f = 0) (hs : ¬ s = 3) (h : ¬ f' = 0 ∨ s' = 3 ∨ a < a') (ha : a' ≤ z) (hm : mMr f s a z < n + 1) : mMr f' s' a' z < n := by
  unfold mMr at hm ⊢
  rw [if_pos hf, if_neg hs] at hm
  split
  · rename_i h1
    split
    · omega
    · rename_i h2
      rcases h with h | h | h
      · exact absurd h1 h
      · exact absurd h h2
      · omega
  · omega
theorem uW9N {x : Int32} {a : Nat} (e : x = nI a) (h : x ≤ 9) (ha : a < 2 ^ 31) : a ≤ 9 := by rw [e] at h; exact (nI_leI (b := 9) ha (by decide)).mp h
theorem uW15N {x : Int32} {a : Nat} (e : x = nI a) (h : x ≤ 15) (ha : a < 2 ^ 31) : a ≤ 15 := by rw [e] at h; exact (nI_leI (b := 15) ha (by decide)).mp h
theorem uW9I {x : Int32} {a : Nat} (e : x = nI a) (ha : a ≤ 9) : x ≤ 9 := by rw [e]; exact (nI_leI (b := 9) (by omega) (by decide)).mpr ha
theorem uW15I {x : Int32} {a : Nat} (e : x = nI a) (ha : a ≤ 15) : x ≤ 15 := by rw [e]; exact (nI_leI (b := 15) (by omega) (by decide)).mpr ha
def mMl (g : Nat → Int32) (k : Nat) : Nat := (6 - (g k).toInt).toNat
theorem uMlLt {g : Nat → Int32} {k a n : Nat} (e : g k = nI a) (ha : a ≤ 4) (hm : mMl g k < n + 1) : mMl (upd g k (nI (a + 1))) k < n := by
  unfold mMl at hm ⊢
  rw [e, nI_toInt (by omega)] at hm
  rw [pk_us, nI_toInt (by omega)]
  omega
def uAm (f' : Int32) (g g' : Nat → Int32) (o : Nat) : Prop := f' = 0 → (g' o).toInt = (g o).toInt + 1
theorem uAmI {f' : Int32} {g : Nat → Int32} {o a : Nat} (e : g o = nI a) (ha : a < 2 ^ 30) : uAm f' g (upd g o (nI (a + 1))) o := by
  intro _
  rw [pk_us, e, nI_toInt (by omega), nI_toInt (by omega)]
  omega
def uMo (f : Int32) (g : Nat → Int32) (o : Nat) : Nat := if f = 0 then (5 - (g o).toInt).toNat else 0
theorem uMoLt {f f' : Int32} {g g' : Nat → Int32} {o n : Nat} (hf : f = 0) (hr : uRg g 0 4) (hr' : uRg g' 0 4) (h : uAm f' g g' o) (hm : uMo f g o < n + 1) : uMo f' g' o < n := by
  have k := (hr o).2
  have k' := (hr' o).2
  rw [Int32.le_iff_toInt_le] at k k'
  simp only [Int32.reduceToInt] at k k'
  unfold uMo at hm ⊢
  rw [if_pos hf] at hm
  split
  · rename_i h1
    have := h h1
    omega
  · omega
/-! acts of the model's orders -/
def uMa (fo m kd w : Nat → Int32) : Prop := ∀ o i : Nat, o < 16 → i < 4 → o < (fo 0).toNatClampNeg → (i : Int) < (m o).toInt → kd (4 * o + i) = 1 → 0 ≤ w (4 * o + i)
def uMu (fo m kd w : Nat → Int32) : Prop := ∀ o i : Nat, o < 16 → i < 4 → o < (fo 1).toNatClampNeg → (i : Int) < (m (16 + o)).toInt → kd (64 + (4 * o + i)) = 1 → 0 ≤ w (64 + (4 * o + i))
theorem uMaU0 {fo m kd w : Nat → Int32} {k : Nat} {v : Int32} (hk : 1 ≤ k) (h : uMa fo m kd w) : uMa (upd fo k v) m kd w := by
  intro o i h1 h2 h3 h4 h5
  rw [pk_un (by omega)] at h3
  exact h o i h1 h2 h3 h4 h5
theorem uMaU1 {fo m kd w : Nat → Int32} {k : Nat} {v : Int32} (hk : 16 ≤ k) (h : uMa fo m kd w) : uMa fo (upd m k v) kd w := by
  intro o i h1 h2 h3 h4 h5
  rw [pk_un (by omega)] at h4
  exact h o i h1 h2 h3 h4 h5
theorem uMaU2 {fo m kd w : Nat → Int32} {k : Nat} {v : Int32} (hk : 64 ≤ k) (h : uMa fo m kd w) : uMa fo m (upd kd k v) w := by
  intro o i h1 h2 h3 h4 h5
  rw [pk_un (by omega)] at h5
  exact h o i h1 h2 h3 h4 h5
theorem uMaU3 {fo m kd w : Nat → Int32} {k : Nat} {v : Int32} (hk : 64 ≤ k) (h : uMa fo m kd w) : uMa fo m kd (upd w k v) := by
  intro o i h1 h2 h3 h4 h5
  rw [pk_un (by omega)]
  exact h o i h1 h2 h3 h4 h5
def uRo (y : Int32) (o k : Nat) (m kd w : Nat → Int32) : Prop := y = -1 → ∀ p i : Nat, i < 4 → 16 ≤ p → p < 32 → (p < o ∨ p = o ∧ 4 * p + i < k) → (i : Int) < (m p).toInt → kd (4 * p + i) = 1 → 0 ≤ w (4 * p + i)
theorem uRo0 (y : Int32) {m kd w : Nat → Int32} : uRo y 16 0 m kd w := by
  intro _ p i _ h2 _ h4
  omega
theorem uRoE {y : Int32} {o : Nat} {m kd w : Nat → Int32} (h : uRo y o 0 m kd w) : uRo y o (4 * o) m kd w := by
  intro hy p i h1 h2 h3 h4
  exact h hy p i h1 h2 h3 (by omega)
theorem uRoK {y : Int32} {o k a : Nat} {m kd w : Nat → Int32} (h : uRo y o k m kd w) (e : kd k = nI a) (ha : ¬ a = 1) (ha2 : a < 2 ^ 31) : uRo y o (k + 1) m kd w := by
  intro hy p i h1 h2 h3 h4 h5 h6
  by_cases q : 4 * p + i = k
  · rw [q, e] at h6; exact absurd ((nI_eq (b := 1) ha2 (by decide)).mp h6) ha
  · exact h hy p i h1 h2 h3 (by omega) h5 h6
theorem uRoW {y : Int32} {o k a : Nat} {m kd w : Nat → Int32} (h : uRo y o k m kd w) (ha : a < 2 ^ 31) : uRo y o (k + 1) m kd (upd w k (nI a)) := by
  intro hy p i h1 h2 h3 h4 h5 h6
  by_cases q : 4 * p + i = k
  · rw [q, pk_us]; exact uLoN (by simp only [Int32.reduceToInt]; omega) ha
  · rw [pk_un q]; exact h hy p i h1 h2 h3 (by omega) h5 h6
theorem uRoV {o k a : Nat} {m kd w : Nat → Int32} (ha : a < 2 ^ 31) : uRo (nI a) o k m kd w := by
  intro hy
  have h := congrArg Int32.toInt hy
  rw [nI_toInt ha] at h
  have h2 : (-1 : Int32).toInt = -1 := by decide
  rw [h2] at h
  omega
theorem uRoX {y : Int32} {o k : Nat} {m kd w : Nat → Int32} (c : ¬ y = -1) : uRo y o k m kd w := fun hy => absurd hy c
theorem uRoD {y : Int32} {o k a : Nat} {m kd w : Nat → Int32} (h : uRo y o k m kd w) (e : m o = nI a) (hk : 4 * o + a ≤ k) (ha : a < 2 ^ 31) : uRo y (o + 1) 0 m kd w := by
  intro hy p i h1 h2 h3 h4 h5 h6
  by_cases q : p = o
  · subst q
    refine h hy p i h1 h2 h3 (Or.inr ⟨rfl, ?_⟩) h5 h6
    rw [e, nI_toInt ha] at h5
    omega
  · exact h hy p i h1 h2 h3 (by omega) h5 h6
theorem uRoU {y : Int32} {o a : Nat} {fo m kd w : Nat → Int32} (h : uRo y o 0 m kd w) (hy : y = -1) (e : fo 1 = nI a) (ho : 16 + a ≤ o ∧ a < 2 ^ 31) : uMu fo m kd w := by
  intro p i h1 h2 h3 h4
  rw [e, nI_clamp ho.2] at h3
  have q : 64 + (4 * p + i) = 4 * (16 + p) + i := by omega
  rw [q]
  exact h hy (16 + p) i h2 (by omega) (by omega) (by omega) h4
def uTk (n o i : Nat) (m kd w : Nat → Int32) : Prop := (∀ p q : Nat, p < 16 → q < 4 → p < n → (q : Int) < (m (16 + p)).toInt → kd (64 + (4 * p + q)) = 1 → 0 ≤ w (64 + (4 * p + q))) ∧ (∀ p q : Nat, p < 16 → q < 4 → p < n → (p < o ∧ (q : Int) < (m p).toInt ∨ p = o ∧ q < i ∧ (q : Int) < (m (16 + p)).toInt) → kd (4 * p + q) = 1 → 0 ≤ w (4 * p + q))
theorem uTk0 {fo m kd w : Nat → Int32} {a : Nat} (h : uMu fo m kd w) (e : fo 1 = nI a) (ha : a < 2 ^ 31) : uTk a 0 0 m kd w := by
  refine ⟨fun p q h1 h2 h3 h4 => h p q h1 h2 (by rw [e, nI_clamp ha]; exact h3) h4, fun p q _ _ _ h4 => ?_⟩
  omega
theorem uTkM {n o : Nat} {m kd w : Nat → Int32} {v : Int32} (h : uTk n o 0 m kd w) (ho : o < 16) : uTk n o 0 (upd m o v) kd w := by
  refine ⟨fun p q h1 h2 h3 h4 => ?_, fun p q h1 h2 h3 h4 => ?_⟩
  · rw [pk_un (by omega)] at h4
    exact h.1 p q h1 h2 h3 h4
  · rcases h4 with ⟨h4, h5⟩ | ⟨_, h5, _⟩
    · rw [pk_un (by omega)] at h5
      exact h.2 p q h1 h2 h3 (Or.inl ⟨h4, h5⟩)
    · omega
theorem uTkS {n o i a : Nat} {m kd w : Nat → Int32} (h : uTk n o i m kd w) (ho : o < 16) (hi : i < 4) (e : kd (64 + (4 * o + i)) = nI a) : uTk n o (i + 1) m (upd kd (4 * o + i) (nI a)) (upd w (4 * o + i) (w (64 + (4 * o + i)))) := by
  refine ⟨fun p q h1 h2 h3 h4 h5 => ?_, fun p q h1 h2 h3 h4 h5 => ?_⟩
  · rw [pk_un (by omega)] at h5 ⊢
    exact h.1 p q h1 h2 h3 h4 h5
  · by_cases k : 4 * p + q = 4 * o + i
    · rw [k, pk_us] at h5 ⊢
      obtain ⟨rfl, rfl⟩ : p = o ∧ q = i := by omega
      rcases h4 with ⟨h4, _⟩ | ⟨_, _, h4⟩
      · omega
      · exact h.1 p q h1 h2 h3 h4 (by rw [e]; exact h5)
    · rw [pk_un k] at h5 ⊢
      refine h.2 p q h1 h2 h3 ?_ h5
      rcases h4 with h4 | ⟨h4, h6, h7⟩
      · exact Or.inl h4
      · exact Or.inr ⟨h4, by omega, h7⟩
theorem uTkE {n o i : Nat} {m kd w : Nat → Int32} (h : uTk n o i m kd w) (hi : 4 ≤ i) (e : m o = m (16 + o)) : uTk n (o + 1) 0 m kd w := by
  refine ⟨h.1, fun p q h1 h2 h3 h4 => ?_⟩
  rcases h4 with ⟨h4, h5⟩ | ⟨_, h5, _⟩
  · by_cases k : p = o
    · subst k; exact h.2 p q h1 h2 h3 (Or.inr ⟨rfl, by omega, by rw [← e]; exact h5⟩)
    · exact h.2 p q h1 h2 h3 (Or.inl ⟨by omega, h5⟩)
  · omega
theorem uTkQ {n o : Nat} {fo m kd w : Nat → Int32} (h : uTk n o 0 m kd w) (ho : 16 ≤ o) (hn : n < 2 ^ 31) : uMa (upd fo 0 (nI n)) m kd w := by
  intro p q h1 h2 h3 h4
  rw [pk_us, nI_clamp hn] at h3
  exact h.2 p q h1 h2 h3 (Or.inl ⟨by omega, h4⟩)

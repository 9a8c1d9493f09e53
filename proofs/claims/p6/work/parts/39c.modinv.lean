/-! the model: messages seen, ways, rations -/
theorem uSmP {n : Nat} {f : Nat → Int32} : uSm (n + 1) (upd f n 0) = uSm n f := by
  have h : uSm n (upd f n 0) = uSm n f := uSmX (fun k hk => pk_un (by omega))
  show uSm n (upd f n 0) + ((upd f n 0) n).toNatClampNeg = uSm n f
  rw [h, pk_us]; rfl
theorem uSmS {n k : Nat} {f : Nat → Int32} (hk : k < n) (h : f k = 0) : uSm n (upd f k 1) = uSm n f + 1 := by
  have q := uSmU (n := n) (f := f) (k := k) (v := 1) hk
  rw [h] at q
  have h0 : (0 : Int32).toNatClampNeg = 0 := by decide
  have h1 : (1 : Int32).toNatClampNeg = 1 := by decide
  rw [h0, h1] at q
  exact q
theorem uSmL {n : Nat} {f : Nat → Int32} (b : ∀ k, f k = 0 ∨ f k = 1) : uSm n f ≤ n := by
  have h := uSmB (n := n) (f := f) (B := 1) (fun k => by rcases b k with e | e <;> rw [e] <;> decide)
  omega
theorem uSmF {n : Nat} {f : Nat → Int32} (h : uFl n f 0) : uSm n f = 0 := by
  induction n with
  | zero => rfl
  | succ n ih => unfold uSm; rw [ih (fun k hk => h k (by omega)), h n (by omega)]; rfl
theorem uSmO {n : Nat} {f : Nat → Int32} (h : ∀ k, k < n → f k = 1) : uSm n f = n := by
  induction n with
  | zero => rfl
  | succ n ih => unfold uSm; rw [ih (fun k hk => h k (by omega)), h n (by omega)]; rfl
theorem uSmD {n k a m : Nat} {f : Nat → Int32} (hk : k < n) (e : f k = nI a) (h : 1 ≤ m ∧ m ≤ a ∧ a < 2 ^ 31) : uSm n (upd f k (nI (a - m))) < uSm n f := by
  have q := uSmU (n := n) (f := f) (k := k) (v := nI (a - m)) hk
  rw [e, nI_clamp h.2.2, nI_clamp (by omega)] at q
  omega
def uNx (y : Int32) (s : Nat) (f : Nat → Int32) : Prop := y = -1 ∨ ∃ a : Nat, a < s ∧ f a = 0 ∧ y = nI a
theorem uNxI {s a : Nat} {f : Nat → Int32} (h : a < s) (e : f a = 0) : uNx (nI a) s f := Or.inr ⟨a, h, e, rfl⟩
theorem uNxG {y : Int32} {s : Nat} {f : Nat → Int32} (h : uNx y s f) (c : ¬ y = -1) : ∃ a : Nat, a < s ∧ f a = 0 ∧ y = nI a := by rcases h with h | h; exact absurd h c; exact h
def uLo (o : Nat) (fo : Nat → Int32) : Prop := o < (fo 0).toNatClampNeg
theorem uLoI {o a : Nat} {fo : Nat → Int32} (e : fo 0 = nI a) (h : o < a ∧ a < 2 ^ 31) : uLo o fo := by unfold uLo; rw [e, nI_clamp h.2]; exact h.1
theorem uMaG {fo m kd w : Nat → Int32} {o k a b : Nat} (h : uMa fo m kd w) (ho : o < 16) (hl : uLo o fo) (em : m o = nI a) (hk : 4 * o ≤ k ∧ k < 4 * o + a ∧ a ≤ 4) (ed : kd k = nI b) (hb : b = 1) : 0 ≤ w k := by
  have e : 4 * o + (k - 4 * o) = k := by omega
  have q := h o (k - 4 * o) ho (by omega) hl (by rw [em, nI_toInt (by omega)]; omega)
  rw [e] at q
  exact q (by rw [ed, hb]; rfl)
def uCh (j : Nat) (c : Int32) (f : Nat → Int32) (N : Nat) : Prop := (c = -1 ∧ ∀ i, i < j → f i = 1) ∨ (∃ a : Nat, a < N ∧ f a = 0 ∧ c = nI a)
theorem uChZ {f : Nat → Int32} {N : Nat} : uCh 0 (-1) f N := Or.inl ⟨rfl, fun _ h => absurd h (Nat.not_lt_zero _)⟩
theorem uChI {j k N : Nat} {f : Nat → Int32} (h : k < N) (e : f k = 0) : uCh j (nI k) f N := Or.inr ⟨k, h, e, rfl⟩
theorem uChD {j N : Nat} {c : Int32} {f : Nat → Int32} (h : uCh j c f N) (b : f j = 0 ∨ f j = 1) (e : ¬ f j = 0) : uCh (j + 1) c f N := by
  rcases h with ⟨h1, h2⟩ | h
  · refine Or.inl ⟨h1, fun i hi => ?_⟩
    by_cases q : i = j
    · subst q; rcases b with b | b; exact absurd b e; exact b
    · exact h2 i (by omega)
  · exact Or.inr h
theorem uChK {j j' N : Nat} {c : Int32} {f : Nat → Int32} (h : uCh j c f N) (e : ¬ c = -1) : uCh j' c f N := by
  rcases h with ⟨h1, _⟩ | h
  · exact absurd h1 e
  · exact Or.inr h
theorem uChG {j N r : Nat} {c : Int32} {f : Nat → Int32} (h : uCh j c f N) (hj : N ≤ j) (hs : uSm N f = r) (hr : r < N) : ∃ a : Nat, a < N ∧ f a = 0 ∧ c = nI a := by
  rcases h with ⟨_, h⟩ | h
  · have := uSmO (n := N) (f := f) (fun k hk => h k (by omega))
    omega
  · exact h
theorem uMod1 {a w t : Nat} (hw : 0 < w) (h : a < w * t) (hm : a % w < w - 1) : a + 1 < w * t := by
  have h1 : a + 1 ≠ w * t := by
    intro e
    have h2 : (a + 1) % w = 0 := by rw [e]; exact Nat.mul_mod_right w t
    have h3 : (a + 1) % w = a % w + 1 := by
      rw [Nat.add_mod]
      by_cases k : w = 1
      · omega
      · rw [Nat.mod_eq_of_lt (a := 1) (by omega), Nat.mod_eq_of_lt (by omega)]
    omega
  omega
def uNc (y : Int32) (f g : Nat → Int32) : Prop := y = -1 ∨ ∃ a : Nat, a < 144 ∧ ¬ f (a / 12) = 0 ∧ ¬ g (a % 12) = 0 ∧ y = nI a
theorem uNcI {a b x y : Nat} {f g : Nat → Int32} (ha : a < 12) (hb : b < 12) (e1 : f a = nI x) (h1 : ¬ x = 0 ∧ x < 2 ^ 31) (e2 : g b = nI y) (h2 : ¬ y = 0 ∧ y < 2 ^ 31) : uNc (nI (12 * a + b)) f g := by
  refine Or.inr ⟨12 * a + b, by omega, ?_, ?_, rfl⟩
  · rw [show (12 * a + b) / 12 = a by omega, e1]; exact fun q => h1.1 ((nI_eq (b := 0) h1.2 (by decide)).mp q)
  · rw [show (12 * a + b) % 12 = b by omega, e2]; exact fun q => h2.1 ((nI_eq (b := 0) h2.2 (by decide)).mp q)
theorem uNcG {y : Int32} {f g : Nat → Int32} (h : uNc y f g) (c : ¬ y = -1) : ∃ a : Nat, a < 144 ∧ ¬ f (a / 12) = 0 ∧ ¬ g (a % 12) = 0 ∧ y = nI a := by rcases h with h | h; exact absurd h c; exact h
theorem uNz0 {x : Int32} {n : Nat} (e : x = nI n) (h : ¬ x = 0) : ¬ n = 0 := fun q => h (by rw [e, q]; rfl)
section UMXL
variable {p : Program} {l : Launch} {e : Env} {R : Room} {s : State} {m : MethodId} {args : Array Value} {below : List Frame} {meth : Method} {c : Code} {H : Heap} {locs : List Loc} {cells slots : Nat} {Q : State → Prop}
variable {cc : ByteArray} {pc : Nat} {ls : Array Slot} {rest : List Value} {A : Nat → Prop} {D : va_G} {K : Nat → ClassId} {own nm : String} {nL : Nat} {ret : Option FieldType}
theorem uMaxL {index : Nat} {x y : Int64} (B : uB p s m args meth c D K own nm cc nL ret A) (hls : ls.size = nL) (hlk : Cond.methodLink own index yJ9_max_f86c9 ∈ uTb) (hframes : 1 ≤ R.frames) (hlocals : (rest.map fun v => v.category).sum + 15 ≤ R.locals) (hc : cells ≤ R.cells) (hs : slots ≤ R.slots) (hdg : decode cc pc = .ok (.invokestatic index, 3)) (kk : ∀ v : Int64, W p l e R s m args below meth c H locs cells slots Q (F0 m (pc + 3) ls (.long v :: rest))) : W p l e R s m args below meth c H locs cells slots Q (F0 m pc ls (.long y :: .long x :: rest)) := by
  obtain ⟨hx, hb, hr, hml, hown, hts, hlocks, hnm, hK, hA, hN, hZ⟩ := B
  intro T hT X
  obtain ⟨vm', X', st⟩ := Stand.mathMaxLH X hx hown (hts _ hlk) (hts _ mst_J9_max_f86c9) (hts _ min_J9) (hts _ mco_J9_max_f86c9) (g := F0 m pc ls (.long y :: .long x :: rest)) rfl (by rw [hml]; exact hls) (a := x) (b := y) (rest := rest) rfl (by rw [hb]; exact hdg) hframes (by show 2 * 0 + _ + 15 ≤ _; omega) hc hs
  obtain ⟨t, a1, b1⟩ := kk _ (T.setVm vm') hT X'
  exact ⟨t, st t a1, b1⟩
end UMXL
theorem uNn {a : Nat} {k : Int32} (ha : a < 2 ^ 31) (hk : k.toInt < 0) : ¬ nI a = k := by
  intro h
  have q := congrArg Int32.toInt h
  rw [nI_toInt ha] at q
  omega

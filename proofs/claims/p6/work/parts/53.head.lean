/-! a call in a world with a pool that it doesn't see -/
theorem uAppC {X pl : va_W} : ∀ (is : List Nat) (wc : va_W), is.map (fun i => X[i]?) = wc.map some → is.map (fun i => (X ++ pl)[i]?) = wc.map some
  | [], _, h => h
  | i :: is, [], h => by cases h
  | i :: is, w :: wc, h => by
    have h1 : X[i]? = some w := (List.cons.inj h).1
    have h2 : is.map (fun i => X[i]?) = wc.map some := (List.cons.inj h).2
    have k1 : (X ++ pl)[i]? = some w := by rw [List.getElem?_append_left (List.getElem?_eq_some_iff.mp h1).1]; exact h1
    show (X ++ pl)[i]? :: is.map (fun i => (X ++ pl)[i]?) = some w :: wc.map some
    rw [k1, uAppC is wc h2]
section UPOOL
variable {p : Program} {l : Launch} {e : Env} {R : Room} {s : State} {m : MethodId} {args : Array Value} {below : List Frame} {meth : Method} {c : Code} {H : Heap} {locs : List Loc} {cells slots : Nat} {Q : State → Prop}
variable {cc : ByteArray} {pc : Nat} {ls : Array Slot} {rest : List Value} {A : Nat → Prop} {a : Nat} {H0 : Heap} {D : va_G} {K : Nat → ClassId} {own nm : String} {nL : Nat} {ret : Option FieldType} {X pl : va_W}
theorem uAiQ {S : Type} {post : Int32 → S → Prop} {wp : S → va_W} {wc wr : va_W} {mc ms : Nat} {st0 : List Value} {av : Array Value} (hP : va_P D vwCl (X ++ pl) H) (hD : va_D A (X ++ pl)) (hS : va_S A H0 H locs) (hA : ∀ q, H0.size ≤ q → A q) (isC isR : List Nat) (hC : isC.map (fun i => X[i]?) = wc.map some) (hR : isR.map (fun i => X[i]?) = wr.map some) (hn : va_nd isR = true) (hdis : ∀ i ∈ isR, i ∉ isC)
    (hr : va_Run p l e R s m args below meth c H locs cells slots mc ms (F0 m pc ls st0) rest (uQi D post wp (va_A wc H.size) av) (va_A wc H.size))
    (kk : ∀ (r : Int32) (u : S) (H1 : Heap) (locs1 : List Loc), post r u → va_P D vwCl ((wr ++ wp u) ++ pl) H1 → va_D A ((wr ++ wp u) ++ pl) → va_S A H0 H1 locs1 → W p l e R s m args below meth c H1 locs1 (cells + mc) (slots + ms) Q (F0 m (pc + 3) ls (.int r :: rest))) : W p l e R s m args below meth c H locs cells slots Q (F0 m pc ls st0) := by
  have hFc := va_free (wc := wc) hD hS hA isC (uAppC isC wc hC)
  refine va_calli hr hS (fun q _ h => hFc q h) hFc (fun r u t H1 locs1 ht hvm hw hB hz1 hk1 hS1 => ?_)
  obtain ⟨hP1, hD1⟩ := hB
  rw [ht] at hP1
  obtain ⟨hP2, hD2⟩ := va_joinQ hP hD isC isR hC hR hn hdis hk1 hFc hP1 hD1
  exact kk r u H1 locs1 hw hP2 hD2 hS1
theorem uViQ {S : Type} {post : Int32 → S → Prop} {wp : S → va_W} {wr : va_W} {y : MethodName} {bytes : ByteArray} {maxL index n : Nat} {retc : Option FieldType} {rm : Room} {As : List Value} {C : String} {b ci : Nat} {fs : List Value} {TC : u_T} {NC : Nat} (wc : va_W) (B : uB p s m args meth c D K own nm cc nL ret A) (hls : ls.size = nL) (hP : va_P D vwCl (X ++ pl) H) (hD : va_D A (X ++ pl)) (hS : va_S A s.heap H locs) (isC isR : List Nat) (hC : isC.map (fun i => X[i]?) = wc.map some) (hR : isR.map (fun i => X[i]?) = wr.map some) (hnd : va_nd (isC ++ isR) = true)
    (hM : uMi l y bytes maxL retc rm (.ref b :: As) D K wc H.size post wp) (hw : uWv y C bytes maxL retc n) (hlk : Cond.methodLink own index y ∈ uTb) (hq : wc[0]? = some (b, .inr (ci, fs))) (hcl : vwCl[ci]? = some (C, TC, NC)) {st0 : List Value} (hst : st0 = As.reverse ++ .ref b :: rest) (hn : As.length = n) (hrm : rm.frames + 1 ≤ R.frames ∧ 8 + (maxL + 11) + rm.locals ≤ R.locals) (hro : (rest.map fun v => v.category).sum ≤ 8) (hcs : cells + rm.cells ≤ R.cells ∧ slots + rm.slots ≤ R.slots) (hdg : decode cc pc = .ok (.invokevirtual index, 3))
    (kk : ∀ (r : Int32) (u : S) (H1 : Heap) (locs1 : List Loc), post r u → va_P D vwCl ((wr ++ wp u) ++ pl) H1 → va_D A ((wr ++ wp u) ++ pl) → va_S A s.heap H1 locs1 → W p l e R s m args below meth c H1 locs1 (cells + rm.cells) (slots + rm.slots) Q (F0 m (pc + 3) ls (.int r :: rest))) : W p l e R s m args below meth c H locs cells slots Q (F0 m pc ls st0) := by
  obtain ⟨hx, hb, hr, hml, hown, hts, hlocks, hnm, hK, hA, hN, hZ⟩ := B
  have hC' := uAppC (pl := pl) isC wc hC
  have hPc : va_P D vwCl wc H := uSub hP isC hC'
  obtain ⟨n1, n2, n3⟩ := uNd hnd
  have hDc : va_D A wc := hD.sub isC n1 hC'
  subst hst
  exact uAiQ hP hD hS hA isC isR hC hR n2 n3 (va_runV (As := As) (rest := rest) ⟨hx, hb, hml, hown, hts⟩ hM (uCW hts hw.1 hw.2.1 hw.2.2.1 hlk hw.2.2.2.1 hw.2.2.2.2.1 hw.2.2.2.2.2 hrm) ⟨uBlind, va_recv hK hPc hcl hq, uPre hK hN hZ hS (va_free (wc := wc) hD hS hA isC hC') hPc hDc⟩ rfl hn hls rfl (lv_room hro) hdg hcs) kk
end UPOOL
/-! the law's world: some cells before, the others in the pool, by a mask -/
def uMsl : List Bool → va_W → va_W
  | true :: ms, c :: cs => c :: uMsl ms cs
  | false :: ms, _ :: cs => uMsl ms cs
  | _, _ => []
def uRst : List Bool → va_W → va_W
  | true :: ms, _ :: cs => uRst ms cs
  | false :: ms, c :: cs => c :: uRst ms cs
  | [], cs => cs
  | _, [] => []
theorem uMp : ∀ (ms : List Bool) (cs : va_W), (uMsl ms cs ++ uRst ms cs).Perm cs
  | [], [] => List.Perm.refl _
  | [], _ :: _ => List.Perm.refl _
  | true :: _, [] => List.Perm.refl _
  | false :: _, [] => List.Perm.refl _
  | true :: ms, c :: cs => List.Perm.cons c (uMp ms cs)
  | false :: ms, c :: cs => List.perm_middle.trans (List.Perm.cons c (uMp ms cs))
theorem uPp {D : va_G} {cl : List vw_C} {l1 l2 : va_W} {H : Heap} (h : l1.Perm l2) (hP : va_P D cl l1 H) : va_P D cl l2 H := by
  intro k q hk
  have m : q ∈ l1 := h.mem_iff.mpr (List.mem_of_getElem? hk)
  obtain ⟨i, hi⟩ := List.mem_iff_getElem?.mp m
  exact hP i q hi
theorem uDc {A : Nat → Prop} {x : Nat × va_E} {l : va_W} : va_D A (x :: l) ↔ A x.1 ∧ (∀ q ∈ l, ¬ x.1 = q.1) ∧ va_D A l := by
  constructor
  · rintro ⟨h1, h2⟩
    refine ⟨h2 0 x rfl, fun q hq e => ?_, fun i j p q hp hq e => ?_, fun k q hk => ?_⟩
    · obtain ⟨k, hk⟩ := List.mem_iff_getElem?.mp hq
      have z := h1 0 (k + 1) x q rfl (by rw [List.getElem?_cons_succ]; exact hk) e
      omega
    · have z := h1 (i + 1) (j + 1) p q (by rw [List.getElem?_cons_succ]; exact hp) (by rw [List.getElem?_cons_succ]; exact hq) e
      omega
    · exact h2 (k + 1) q (by rw [List.getElem?_cons_succ]; exact hk)
  · rintro ⟨h1, h2, h3, h4⟩
    refine ⟨fun i j p q hp hq e => ?_, fun k q hk => ?_⟩
    · cases i with
      | zero =>
        cases j with
        | zero => rfl
        | succ j =>
          rw [List.getElem?_cons_zero] at hp
          rw [List.getElem?_cons_succ] at hq
          cases hp
          exact absurd e (h2 q (List.mem_of_getElem? hq))
      | succ i =>
        cases j with
        | zero =>
          rw [List.getElem?_cons_zero] at hq
          rw [List.getElem?_cons_succ] at hp
          cases hq
          exact absurd e.symm (h2 p (List.mem_of_getElem? hp))
        | succ j =>
          rw [List.getElem?_cons_succ] at hp hq
          exact congrArg (fun z => z + 1) (h3 i j p q hp hq e)
    · cases k with
      | zero =>
        rw [List.getElem?_cons_zero] at hk
        cases hk
        exact h1
      | succ k =>
        rw [List.getElem?_cons_succ] at hk
        exact h4 k q hk
theorem uDp {A : Nat → Prop} {l1 l2 : va_W} (h : l1.Perm l2) : va_D A l1 → va_D A l2 := by
  induction h with
  | nil => exact id
  | cons x h ih =>
    intro k
    obtain ⟨k1, k2, k3⟩ := uDc.mp k
    exact uDc.mpr ⟨k1, fun q hq => k2 q (h.mem_iff.mpr hq), ih k3⟩
  | swap x y l =>
    intro k
    obtain ⟨k1, k2, k3⟩ := uDc.mp k
    obtain ⟨j1, j2, j3⟩ := uDc.mp k3
    refine uDc.mpr ⟨j1, fun q hq => ?_, uDc.mpr ⟨k1, fun q hq => k2 q (List.mem_cons_of_mem _ hq), j3⟩⟩
    rcases List.mem_cons.mp hq with e | e
    · rw [e]
      exact fun z => k2 x List.mem_cons_self z.symm
    · exact j2 q e
  | trans _ _ i1 i2 => exact fun k => i2 (i1 k)
theorem uOpenP {D : va_G} {cl : List vw_C} {ws wt : va_W} {H : Heap} (ms : List Bool) (hw : uMsl ms ws = wt) (hP : va_P D cl ws H) : va_P D cl (wt ++ uRst ms ws) H := by
  subst hw
  exact uPp (uMp ms ws).symm hP
theorem uOpenD {A : Nat → Prop} {ws wt : va_W} (ms : List Bool) (hw : uMsl ms ws = wt) (hD : va_D A ws) : va_D A (wt ++ uRst ms ws) := by
  subst hw
  exact uDp (uMp ms ws).symm hD
theorem uShutP {D : va_G} {cl : List vw_C} {ws X wt pl : va_W} {H : Heap} (ms : List Bool) (is : List Nat) (hs : is.map (fun i => X[i]?) = wt.map some) (hw : uMsl ms ws = wt) (hr : uRst ms ws = pl) (hP : va_P D cl (X ++ pl) H) : va_P D cl ws H := by
  subst hw
  subst hr
  refine uPp (uMp ms ws) (fun k q hk => ?_)
  rcases List.mem_append.mp (List.mem_of_getElem? hk) with m | m
  · obtain ⟨i, hi⟩ := List.mem_iff_getElem?.mp m
    exact uSub hP is (uAppC is _ hs) i q hi
  · obtain ⟨i, hi⟩ := List.mem_iff_getElem?.mp (List.mem_append.mpr (Or.inr m) : q ∈ X ++ uRst ms ws)
    exact hP i q hi
theorem uShutD {A : Nat → Prop} {ws X wt pl : va_W} (ms : List Bool) (is : List Nat) (hn : va_nd is = true) (hs : is.map (fun i => X[i]?) = wt.map some) (hw : uMsl ms ws = wt) (hr : uRst ms ws = pl) (hD : va_D A (X ++ pl)) : va_D A ws := by
  subst hw
  subst hr
  exact uDp (uMp ms ws) (hD.part is hn hs)
/-- a function with one place set -/
def uUp {α : Type} (f : Nat → α) (k : Nat) (v : α) : Nat → α := fun i => match Nat.beq i k with
  | true => v
  | false => f i
def uhGo_T (a : Nat → Nat) (vn : Nat → Nat) (vi : Nat → Int32) (vl : Nat → Int64) (fi : Nat → Nat → Int32) (fl : Nat → Nat → Int64) (fo : Nat → Nat → Option Nat) : Prop := ((vn 0) ≤ 16) ∧ (4 ≤ (vn 0)) ∧ ((vn 1) ≤ 16) ∧ (4 ≤ (vn 1))
def uhGa_T_0 (a : Nat → Nat) (vn : Nat → Nat) (vi : Nat → Int32) (vl : Nat → Int64) (fi : Nat → Nat → Int32) (fl : Nat → Nat → Int64) (fo : Nat → Nat → Option Nat) : Prop := (uRg (fi 1) 0 3)
def uhGo_P (a : Nat → Nat) (vn : Nat → Nat) (vi : Nat → Int32) (vl : Nat → Int64) (fi : Nat → Nat → Int32) (fl : Nat → Nat → Int64) (fo : Nat → Nat → Option Nat) : Prop := ((vn 2) ≤ 12)
def uhGa_P_0 (a : Nat → Nat) (vn : Nat → Nat) (vi : Nat → Int32) (vl : Nat → Int64) (fi : Nat → Nat → Int32) (fl : Nat → Nat → Int64) (fo : Nat → Nat → Option Nat) : Prop := (uRg (fi 6) 0 15) ∧ (uRg (fi 7) 0 15) ∧ (uRg (fi 8) 0 255)
def uhGo_N (a : Nat → Nat) (vn : Nat → Nat) (vi : Nat → Int32) (vl : Nat → Int64) (fi : Nat → Nat → Int32) (fl : Nat → Nat → Int64) (fo : Nat → Nat → Option Nat) : Prop := ((vn 3) ≤ 60) ∧ ((vi 2) = 0 ∨ (vi 2) = 1) ∧ ((vn 4) ≤ 60)
def uhGa_N_0 (a : Nat → Nat) (vn : Nat → Nat) (vi : Nat → Int32) (vl : Nat → Int64) (fi : Nat → Nat → Int32) (fl : Nat → Nat → Int64) (fo : Nat → Nat → Option Nat) : Prop := (uRg (fi 14) 0 6) ∧ (uRg (fi 15) 0 59) ∧ (uRg (fi 16) 0 500) ∧ (∀ k, (fi 17) k = 0 ∨ (fi 17) k = 1)
def uhGo_V (a : Nat → Nat) (vn : Nat → Nat) (vi : Nat → Int32) (vl : Nat → Int64) (fi : Nat → Nat → Int32) (fl : Nat → Nat → Int64) (fo : Nat → Nat → Option Nat) : Prop := ((vn 5) ≤ 252) ∧ ((vi 6) = 0 ∨ (vi 6) = 1)
def uhGo_RA (a : Nat → Nat) (vn : Nat → Nat) (vi : Nat → Int32) (vl : Nat → Int64) (fi : Nat → Nat → Int32) (fl : Nat → Nat → Int64) (fo : Nat → Nat → Option Nat) : Prop := ((vn 6) ≤ 10) ∧ ((vn 7) ≤ 16)
def uhGa_RA_0 (a : Nat → Nat) (vn : Nat → Nat) (vi : Nat → Int32) (vl : Nat → Int64) (fi : Nat → Nat → Int32) (fl : Nat → Nat → Int64) (fo : Nat → Nat → Option Nat) : Prop := (uRg (fi 26) 0 9) ∧ (∀ k, (fi 29) k = 0 ∨ (fi 29) k = 1) ∧ (uRg (fi 30) 0 4)
def uhGo_RB (a : Nat → Nat) (vn : Nat → Nat) (vi : Nat → Int32) (vl : Nat → Int64) (fi : Nat → Nat → Int32) (fl : Nat → Nat → Int64) (fo : Nat → Nat → Option Nat) : Prop := ((vn 8) ≤ 10) ∧ ((vn 9) ≤ 16)
def uhGa_RB_0 (a : Nat → Nat) (vn : Nat → Nat) (vi : Nat → Int32) (vl : Nat → Int64) (fi : Nat → Nat → Int32) (fl : Nat → Nat → Int64) (fo : Nat → Nat → Option Nat) : Prop := (uRg (fi 36) 0 9) ∧ (∀ k, (fi 39) k = 0 ∨ (fi 39) k = 1) ∧ (uRg (fi 40) 0 4)
def uhGo_K (a : Nat → Nat) (vn : Nat → Nat) (vi : Nat → Int32) (vl : Nat → Int64) (fi : Nat → Nat → Int32) (fl : Nat → Nat → Int64) (fo : Nat → Nat → Option Nat) : Prop := ((vn 10) ≤ 1000) ∧ ((vn 11) ≤ 1000) ∧ ((vn 12) ≤ 1000)
def uhGa_K_0 (a : Nat → Nat) (vn : Nat → Nat) (vi : Nat → Int32) (vl : Nat → Int64) (fi : Nat → Nat → Int32) (fl : Nat → Nat → Int64) (fo : Nat → Nat → Option Nat) : Prop := (uRg (fi 44) 0 255)
def uhGo_E (a : Nat → Nat) (vn : Nat → Nat) (vi : Nat → Int32) (vl : Nat → Int64) (fi : Nat → Nat → Int32) (fl : Nat → Nat → Int64) (fo : Nat → Nat → Option Nat) : Prop := ((vi 17) = 0 ∨ (vi 17) = 1) ∧ ((vi 18) = 0 ∨ (vi 18) = 1)
def uhGo_M (a : Nat → Nat) (vn : Nat → Nat) (vi : Nat → Int32) (vl : Nat → Int64) (fi : Nat → Nat → Int32) (fl : Nat → Nat → Int64) (fo : Nat → Nat → Option Nat) : Prop := ((vi 21) = 0 ∨ (vi 21) = 1) ∧ ((vi 22) = 0 ∨ (vi 22) = 1)
def uhGa_M_0 (a : Nat → Nat) (vn : Nat → Nat) (vi : Nat → Int32) (vl : Nat → Int64) (fi : Nat → Nat → Int32) (fl : Nat → Nat → Int64) (fo : Nat → Nat → Option Nat) : Prop := (uRg (fi 52) 0 11) ∧ (uRg (fi 53) 0 11) ∧ (uRg (fi 54) 0 9) ∧ (uRg (fi 55) 0 199) ∧ ((fo 0) 0 = some (a 74)) ∧ ((fo 0) 1 = some (a 75)) ∧ ((fo 0) 2 = some (a 76))
def uhGa_M_1 (a : Nat → Nat) (vn : Nat → Nat) (vi : Nat → Int32) (vl : Nat → Int64) (fi : Nat → Nat → Int32) (fl : Nat → Nat → Int64) (fo : Nat → Nat → Option Nat) : Prop := ((fo 0) 3 = some (a 77))
def uhGo_C (a : Nat → Nat) (vn : Nat → Nat) (vi : Nat → Int32) (vl : Nat → Int64) (fi : Nat → Nat → Int32) (fl : Nat → Nat → Int64) (fo : Nat → Nat → Option Nat) : Prop := ((vn 13) ≤ 12)
def uhGa_C_0 (a : Nat → Nat) (vn : Nat → Nat) (vi : Nat → Int32) (vl : Nat → Int64) (fi : Nat → Nat → Int32) (fl : Nat → Nat → Int64) (fo : Nat → Nat → Option Nat) : Prop := (∀ k, (fi 60) k = 0 ∨ (fi 60) k = 1) ∧ ((fo 1) 0 = some (a 85)) ∧ ((fo 1) 1 = some (a 86)) ∧ ((fo 1) 2 = some (a 87)) ∧ ((fo 1) 3 = some (a 88)) ∧ ((fo 1) 4 = some (a 89)) ∧ ((fo 1) 5 = some (a 90))
def uhGa_C_1 (a : Nat → Nat) (vn : Nat → Nat) (vi : Nat → Int32) (vl : Nat → Int64) (fi : Nat → Nat → Int32) (fl : Nat → Nat → Int64) (fo : Nat → Nat → Option Nat) : Prop := ((fo 1) 6 = some (a 91)) ∧ ((fo 1) 7 = some (a 92)) ∧ ((fo 1) 8 = some (a 93)) ∧ ((fo 1) 9 = some (a 94)) ∧ ((fo 1) 10 = some (a 95)) ∧ ((fo 1) 11 = some (a 96))
def uhGo_m (a : Nat → Nat) (vn : Nat → Nat) (vi : Nat → Int32) (vl : Nat → Int64) (fi : Nat → Nat → Int32) (fl : Nat → Nat → Int64) (fo : Nat → Nat → Option Nat) : Prop := ((vn 14) ≤ 16) ∧ (4 ≤ (vn 14)) ∧ ((vn 15) ≤ 16) ∧ (4 ≤ (vn 15)) ∧ ((vn 16) ≤ 12) ∧ ((vn 17) ≤ 60) ∧ ((vi 25) = 0 ∨ (vi 25) = 1) ∧ ((vi 28) = 0 ∨ (vi 28) = 1) ∧ ((vn 18) ≤ 4096) ∧ ((vn 19) ≤ 1000) ∧ ((vn 20) ≤ 1000) ∧ ((vn 21) ≤ 1000) ∧ ((vn 22) ≤ 1000) ∧ (0 ≤ (vi 30)) ∧ ((vi 30) ≤ 4) ∧ ((-1) ≤ (vi 31)) ∧ ((vi 31) ≤ 100000) ∧ ((vi 32) = 0 ∨ (vi 32) = 1) ∧ ((vi 33) = 0 ∨ (vi 33) = 1) ∧ ((vi 38) = 0 ∨ (vi 38) = 1) ∧ ((vn 23) ≤ 200) ∧ ((vi 39) = 0 ∨ (vi 39) = 1) ∧ ((vi 44) = 0 ∨ (vi 44) = 1)
def uhGa_m_0 (a : Nat → Nat) (vn : Nat → Nat) (vi : Nat → Int32) (vl : Nat → Int64) (fi : Nat → Nat → Int32) (fl : Nat → Nat → Int64) (fo : Nat → Nat → Option Nat) : Prop := (uRg (fi 78) 0 3) ∧ (uRg (fi 83) 0 15) ∧ (uRg (fi 84) 0 15) ∧ (uRg (fi 88) 0 50) ∧ (uRg (fi 89) 0 9999) ∧ (uRg (fi 90) 0 6) ∧ (uRg (fi 91) 0 59)
def uhGa_m_1 (a : Nat → Nat) (vn : Nat → Nat) (vi : Nat → Int32) (vl : Nat → Int64) (fi : Nat → Nat → Int32) (fl : Nat → Nat → Int64) (fo : Nat → Nat → Option Nat) : Prop := (uRg (fi 92) 0 500) ∧ (∀ k, (fi 93) k = 0 ∨ (fi 93) k = 1) ∧ (uRg (fi 94) 0 500) ∧ (uRg (fi 95) 0 500) ∧ (uRg (fi 98) 0 255) ∧ (uRg (fi 99) 0 10) ∧ (uRg (fi 100) 0 5)
def uhGa_m_2 (a : Nat → Nat) (vn : Nat → Nat) (vi : Nat → Int32) (vl : Nat → Int64) (fi : Nat → Nat → Int32) (fl : Nat → Nat → Int64) (fo : Nat → Nat → Option Nat) : Prop := (uRg (fi 101) 0 9) ∧ (uRg (fi 102) 0 8) ∧ (uRg (fi 103) 0 9) ∧ (uRg (fi 104) 0 9) ∧ (uRg (fi 107) 0 16) ∧ (uRg (fi 109) 0 1000) ∧ (uRg (fi 110) (-1) 9)
def uhGa_m_3 (a : Nat → Nat) (vn : Nat → Nat) (vi : Nat → Int32) (vl : Nat → Int64) (fi : Nat → Nat → Int32) (fl : Nat → Nat → Int64) (fo : Nat → Nat → Option Nat) : Prop := (∀ k, (fi 111) k = 0 ∨ (fi 111) k = 1) ∧ (uRg (fi 112) 0 4) ∧ (uRg (fi 113) 0 3) ∧ (uRg (fi 114) 0 1000) ∧ (uRg (fi 115) (-1) 9) ∧ (uRg (fi 120) 0 11) ∧ (uRg (fi 121) 0 11)
def uhGa_m_4 (a : Nat → Nat) (vn : Nat → Nat) (vi : Nat → Int32) (vl : Nat → Int64) (fi : Nat → Nat → Int32) (fl : Nat → Nat → Int64) (fo : Nat → Nat → Option Nat) : Prop := (uRg (fi 122) 0 9) ∧ (∀ k, (fi 123) k = 0 ∨ (fi 123) k = 1) ∧ (∀ k, (fi 133) k = 0 ∨ (fi 133) k = 1) ∧ (uRg (fi 136) 0 4950) ∧ (∀ k, (fi 138) k = 0 ∨ (fi 138) k = 1) ∧ (∀ k, (fi 139) k = 0 ∨ (fi 139) k = 1)
def uhGi_uNt (a : Nat → Nat) (vn : Nat → Nat) (vi : Nat → Int32) (vl : Nat → Int64) (fi : Nat → Nat → Int32) (fl : Nat → Nat → Int64) (fo : Nat → Nat → Option Nat) : Prop := (uNt (fi 14) (fi 15) (fi 16))
def uhGi_uAcA (a : Nat → Nat) (vn : Nat → Nat) (vi : Nat → Int32) (vl : Nat → Int64) (fi : Nat → Nat → Int32) (fl : Nat → Nat → Int64) (fo : Nat → Nat → Option Nat) : Prop := (uAc (vn 7) 0 (fi 30) (fi 31) (fi 32))
def uhGi_uNm (a : Nat → Nat) (vn : Nat → Nat) (vi : Nat → Int32) (vl : Nat → Int64) (fi : Nat → Nat → Int32) (fl : Nat → Nat → Int64) (fo : Nat → Nat → Option Nat) : Prop := (uNt (fi 90) (fi 91) (fi 92))
def uhGi_uMa (a : Nat → Nat) (vn : Nat → Nat) (vi : Nat → Int32) (vl : Nat → Int64) (fi : Nat → Nat → Int32) (fl : Nat → Nat → Int64) (fo : Nat → Nat → Option Nat) : Prop := (uMa (fi 107) (fi 112) (fi 113) (fi 115))
def uTy (a : Nat → Nat) (vn : Nat → Nat) (vi : Nat → Int32) (vl : Nat → Int64) (fi : Nat → Nat → Int32) (fl : Nat → Nat → Int64) (fo : Nat → Nat → Option Nat) : Prop := uhGo_T a vn vi vl fi fl fo ∧ uhGa_T_0 a vn vi vl fi fl fo ∧ uhGo_P a vn vi vl fi fl fo ∧ uhGa_P_0 a vn vi vl fi fl fo ∧ uhGo_N a vn vi vl fi fl fo ∧ uhGa_N_0 a vn vi vl fi fl fo ∧ uhGo_V a vn vi vl fi fl fo ∧ uhGo_RA a vn vi vl fi fl fo ∧ uhGa_RA_0 a vn vi vl fi fl fo ∧ uhGo_RB a vn vi vl fi fl fo ∧ uhGa_RB_0 a vn vi vl fi fl fo ∧ uhGo_K a vn vi vl fi fl fo ∧ uhGa_K_0 a vn vi vl fi fl fo ∧ uhGo_E a vn vi vl fi fl fo ∧ uhGo_M a vn vi vl fi fl fo ∧ uhGa_M_0 a vn vi vl fi fl fo ∧ uhGa_M_1 a vn vi vl fi fl fo ∧ uhGo_C a vn vi vl fi fl fo ∧ uhGa_C_0 a vn vi vl fi fl fo ∧ uhGa_C_1 a vn vi vl fi fl fo ∧ uhGo_m a vn vi vl fi fl fo ∧ uhGa_m_0 a vn vi vl fi fl fo ∧ uhGa_m_1 a vn vi vl fi fl fo ∧ uhGa_m_2 a vn vi vl fi fl fo ∧ uhGa_m_3 a vn vi vl fi fl fo ∧ uhGa_m_4 a vn vi vl fi fl fo ∧ uhGi_uNt a vn vi vl fi fl fo ∧ uhGi_uAcA a vn vi vl fi fl fo ∧ uhGi_uNm a vn vi vl fi fl fo ∧ uhGi_uMa a vn vi vl fi fl fo
def uWd (K : Nat → ClassId) (a : Nat → Nat) (vn : Nat → Nat) (vi : Nat → Int32) (vl : Nat → Int64) (fi : Nat → Nat → Int32) (fl : Nat → Nat → Int64) (fo : Nat → Nat → Option Nat) : va_W := [((a 0), .inr (9, [.ref (a 1), .ref (a 2), .ref (a 3), .ref (a 4), .ref (a 5), .ref (a 6), .int (nI (vn 0)), .int (nI (vn 1)), .int (vi 0)])), ((a 1), .inl (K 0, 256, .inl (fi 0))), ((a 2), .inl (K 0, 256, .inl (fi 1))), ((a 3), .inl (K 0, 4, .inl (fi 2))), ((a 4), .inl (K 0, 4, .inl (fi 3))), ((a 5), .inl (K 0, 24, .inl (fi 4))), ((a 6), .inl (K 0, 24, .inl (fi 5))), ((a 7), .inr (4, [.ref (a 0), .ref (a 8), .ref (a 9), .ref (a 10), .ref (a 11), .ref (a 12), .ref (a 13), .ref (a 14), .ref (a 15), .int (nI (vn 2))])), ((a 8), .inl (K 0, 12, .inl (fi 6))), ((a 9), .inl (K 0, 12, .inl (fi 7))), ((a 10), .inl (K 0, 12, .inl (fi 8))), ((a 11), .inl (K 0, 12, .inl (fi 9))), ((a 12), .inl (K 0, 12, .inl (fi 10))), ((a 13), .inl (K 0, 12, .inl (fi 11))), ((a 14), .inl (K 0, 12, .inl (fi 12))), ((a 15), .inl (K 0, 12, .inl (fi 13))), ((a 16), .inr (8, [.ref (a 0), .ref (a 7)])), ((a 17), .inr (3, [.ref (a 18), .ref (a 19), .ref (a 20), .ref (a 21), .ref (a 22), .ref (a 23), .int (nI (vn 3)), .int (vi 1), .int (vi 2), .int (nI (vn 4))])), ((a 18), .inl (K 0, 60, .inl (fi 14))), ((a 19), .inl (K 0, 60, .inl (fi 15))), ((a 20), .inl (K 0, 60, .inl (fi 16))), ((a 21), .inl (K 1, 60, .inl (fi 17))), ((a 22), .inl (K 0, 24, .inl (fi 18))), ((a 23), .inl (K 0, 24, .inl (fi 19))), ((a 24), .inr (1, [.ref (a 7), .ref (a 17), .ref (a 16), .ref (a 25), .ref (a 26), .int (vi 3), .int (vi 4)])), ((a 25), .inl (K 0, 12, .inl (fi 20))), ((a 26), .inl (K 0, 12, .inl (fi 21))), ((a 27), .inr (6, [.ref (a 28), .ref (a 29), .int (nI (vn 5)), .int (vi 5), .int (vi 6)])), ((a 28), .inl (K 0, 252, .inl (fi 22))), ((a 29), .inl (K 0, 12, .inl (fi 23))), ((a 30), .inr (7, [.ref (a 31), .ref (a 32), .ref (a 33), .ref (a 34), .ref (a 35), .ref (a 36), .ref (a 37), .ref (a 38), .ref (a 39), .ref (a 40), .ref (a 41), .int (nI (vn 6)), .int (vi 7), .int (nI (vn 7)), .int (vi 8), .int (vi 9)])), ((a 31), .inl (K 2, 10, .inr (.inl (fl 0)))), ((a 32), .inl (K 0, 10, .inl (fi 24))), ((a 33), .inl (K 0, 10, .inl (fi 25))), ((a 34), .inl (K 0, 10, .inl (fi 26))), ((a 35), .inl (K 0, 16, .inl (fi 27))), ((a 36), .inl (K 0, 16, .inl (fi 28))), ((a 37), .inl (K 1, 16, .inl (fi 29))), ((a 38), .inl (K 0, 16, .inl (fi 30))), ((a 39), .inl (K 0, 64, .inl (fi 31))), ((a 40), .inl (K 0, 64, .inl (fi 32))), ((a 41), .inl (K 0, 64, .inl (fi 33))), ((a 42), .inr (7, [.ref (a 43), .ref (a 44), .ref (a 45), .ref (a 46), .ref (a 47), .ref (a 48), .ref (a 49), .ref (a 50), .ref (a 51), .ref (a 52), .ref (a 53), .int (nI (vn 8)), .int (vi 10), .int (nI (vn 9)), .int (vi 11), .int (vi 12)])), ((a 43), .inl (K 2, 10, .inr (.inl (fl 1)))), ((a 44), .inl (K 0, 10, .inl (fi 34))), ((a 45), .inl (K 0, 10, .inl (fi 35))), ((a 46), .inl (K 0, 10, .inl (fi 36))), ((a 47), .inl (K 0, 16, .inl (fi 37))), ((a 48), .inl (K 0, 16, .inl (fi 38))), ((a 49), .inl (K 1, 16, .inl (fi 39))), ((a 50), .inl (K 0, 16, .inl (fi 40))), ((a 51), .inl (K 0, 64, .inl (fi 41))), ((a 52), .inl (K 0, 64, .inl (fi 42))), ((a 53), .inl (K 0, 64, .inl (fi 43))), ((a 54), .inr (10, [.ref (a 55), .ref (a 56), .int (nI (vn 10)), .int (nI (vn 11)), .int (nI (vn 12)), .int (vi 13), .int (vi 14), .int (vi 15), .long (vl 0), .int (vi 16)])), ((a 55), .inl (K 0, 1000, .inl (fi 44))), ((a 56), .inl (K 2, 13, .inr (.inl (fl 2)))), ((a 57), .inr (5, [.ref (a 54), .ref (a 58), .ref (a 59), .ref (a 60), .ref (a 61), .ref (a 42), .int (vi 17), .int (vi 18), .int (vi 19), .int (vi 20)])), ((a 58), .inl (K 2, 16, .inr (.inl (fl 3)))), ((a 59), .inl (K 0, 16, .inl (fi 45))), ((a 60), .inl (K 2, 64, .inr (.inl (fl 4)))), ((a 61), .inl (K 0, 64, .inl (fi 46))), ((a 62), .inr (2, [.ref (a 24), .ref (a 63), .int (vi 21), .int (vi 22), .ref (a 64), .ref (a 73), .ref (a 65), .ref (a 66), .ref (a 67), .ref (a 68), .ref (a 69), .ref (a 70), .ref (a 71), .ref (a 72)])), ((a 64), .inl (K 0, 5, .inl (fi 47))), ((a 65), .inl (K 0, 12, .inl (fi 48))), ((a 66), .inl (K 0, 12, .inl (fi 49))), ((a 67), .inl (K 0, 12, .inl (fi 50))), ((a 68), .inl (K 0, 200, .inl (fi 51))), ((a 69), .inl (K 0, 200, .inl (fi 52))), ((a 70), .inl (K 0, 200, .inl (fi 53))), ((a 71), .inl (K 0, 200, .inl (fi 54))), ((a 72), .inl (K 0, 200, .inl (fi 55))), ((a 73), .inl (K 3, 4, .inr (.inr (.inr (.inr (fo 0)))))), ((a 74), .inl (K 0, 120, .inl (fi 56))), ((a 75), .inl (K 0, 120, .inl (fi 57))), ((a 76), .inl (K 0, 120, .inl (fi 58))), ((a 77), .inl (K 0, 120, .inl (fi 59))), ((a 78), .inr (0, [.ref (a 0), .ref (a 7), .ref (a 84), .ref (a 79), .ref (a 80), .ref (a 81), .ref (a 82), .ref (a 83), .int (nI (vn 13))])), ((a 79), .inl (K 1, 12, .inl (fi 60))), ((a 80), .inl (K 0, 12, .inl (fi 61))), ((a 81), .inl (K 0, 12, .inl (fi 62))), ((a 82), .inl (K 0, 12, .inl (fi 63))), ((a 83), .inl (K 0, 12, .inl (fi 64))), ((a 84), .inl (K 3, 12, .inr (.inr (.inr (.inr (fo 1)))))), ((a 85), .inl (K 0, 256, .inl (fi 65))), ((a 86), .inl (K 0, 256, .inl (fi 66))), ((a 87), .inl (K 0, 256, .inl (fi 67))), ((a 88), .inl (K 0, 256, .inl (fi 68))), ((a 89), .inl (K 0, 256, .inl (fi 69))), ((a 90), .inl (K 0, 256, .inl (fi 70))), ((a 91), .inl (K 0, 256, .inl (fi 71))), ((a 92), .inl (K 0, 256, .inl (fi 72))), ((a 93), .inl (K 0, 256, .inl (fi 73))), ((a 94), .inl (K 0, 256, .inl (fi 74))), ((a 95), .inl (K 0, 256, .inl (fi 75))), ((a 96), .inl (K 0, 256, .inl (fi 76))), ((a 97), .inr (11, [.ref (a 0), .ref (a 7), .ref (a 16), .ref (a 17), .ref (a 24), .ref (a 27), .ref (a 54), .ref (a 57), .ref (a 62), .ref (a 78), .ref (a 30)])), ((a 98), .inr (12, [.int (vi 23), .int (nI (vn 14)), .int (nI (vn 15)), .ref (a 99), .ref (a 100), .ref (a 101), .ref (a 102), .int (vi 24), .ref (a 103), .ref (a 104), .int (nI (vn 16)), .ref (a 105), .ref (a 106), .ref (a 107), .ref (a 108), .ref (a 109), .ref (a 110), .ref (a 111), .int (nI (vn 17)), .ref (a 112), .ref (a 113), .ref (a 114), .ref (a 115), .ref (a 116), .ref (a 117), .int (vi 25), .ref (a 118), .int (vi 26), .int (vi 27), .int (vi 28), .ref (a 119), .int (nI (vn 18)), .int (vi 29), .ref (a 120), .int (nI (vn 19)), .ref (a 121), .ref (a 122), .ref (a 123), .ref (a 124), .ref (a 125), .ref (a 126), .ref (a 127), .ref (a 128), .ref (a 129), .ref (a 130), .ref (a 131), .ref (a 132), .ref (a 133), .ref (a 134), .ref (a 135), .ref (a 136), .ref (a 137), .ref (a 138), .ref (a 139), .ref (a 140), .ref (a 141), .ref (a 142), .ref (a 143), .int (nI (vn 20)), .int (nI (vn 21)), .int (nI (vn 22)), .int (vi 30), .int (vi 31), .long (vl 1), .int (vi 32), .int (vi 33), .int (vi 34), .int (vi 35), .int (vi 36), .int (vi 37), .int (vi 38), .ref (a 144), .ref (a 145), .ref (a 146), .ref (a 147), .ref (a 148), .int (nI (vn 23)), .int (vi 39), .ref (a 149), .ref (a 150), .ref (a 151), .ref (a 152), .ref (a 153), .ref (a 154), .ref (a 155), .ref (a 156), .int (vi 40), .int (vi 41), .int (vi 42), .int (vi 43), .ref (a 157), .ref (a 158), .int (vi 44), .ref (a 159), .ref (a 160), .ref (a 161), .ref (a 162), .ref (a 163), .ref (a 164)])), ((a 99), .inl (K 0, 256, .inl (fi 77))), ((a 100), .inl (K 0, 256, .inl (fi 78))), ((a 101), .inl (K 0, 4, .inl (fi 79))), ((a 102), .inl (K 0, 4, .inl (fi 80))), ((a 103), .inl (K 0, 24, .inl (fi 81))), ((a 104), .inl (K 0, 24, .inl (fi 82))), ((a 105), .inl (K 0, 12, .inl (fi 83))), ((a 106), .inl (K 0, 12, .inl (fi 84))), ((a 107), .inl (K 0, 12, .inl (fi 85))), ((a 108), .inl (K 0, 12, .inl (fi 86))), ((a 109), .inl (K 0, 12, .inl (fi 87))), ((a 110), .inl (K 0, 12, .inl (fi 88))), ((a 111), .inl (K 0, 12, .inl (fi 89))), ((a 112), .inl (K 0, 60, .inl (fi 90))), ((a 113), .inl (K 0, 60, .inl (fi 91))), ((a 114), .inl (K 0, 60, .inl (fi 92))), ((a 115), .inl (K 1, 60, .inl (fi 93))), ((a 116), .inl (K 0, 24, .inl (fi 94))), ((a 117), .inl (K 0, 24, .inl (fi 95))), ((a 118), .inl (K 0, 12, .inl (fi 96))), ((a 119), .inl (K 0, 4096, .inl (fi 97))), ((a 120), .inl (K 0, 1000, .inl (fi 98))), ((a 121), .inl (K 0, 2, .inl (fi 99))), ((a 122), .inl (K 2, 20, .inr (.inl (fl 5)))), ((a 123), .inl (K 0, 20, .inl (fi 100))), ((a 124), .inl (K 0, 100, .inl (fi 101))), ((a 125), .inl (K 0, 2, .inl (fi 102))), ((a 126), .inl (K 0, 16, .inl (fi 103))), ((a 127), .inl (K 0, 16, .inl (fi 104))), ((a 128), .inl (K 0, 2, .inl (fi 105))), ((a 129), .inl (K 0, 2, .inl (fi 106))), ((a 130), .inl (K 0, 2, .inl (fi 107))), ((a 131), .inl (K 0, 32, .inl (fi 108))), ((a 132), .inl (K 2, 32, .inr (.inl (fl 6)))), ((a 133), .inl (K 0, 32, .inl (fi 109))), ((a 134), .inl (K 0, 32, .inl (fi 110))), ((a 135), .inl (K 1, 32, .inl (fi 111))), ((a 136), .inl (K 0, 32, .inl (fi 112))), ((a 137), .inl (K 0, 128, .inl (fi 113))), ((a 138), .inl (K 2, 128, .inr (.inl (fl 7)))), ((a 139), .inl (K 0, 128, .inl (fi 114))), ((a 140), .inl (K 0, 128, .inl (fi 115))), ((a 141), .inl (K 0, 128, .inl (fi 116))), ((a 142), .inl (K 0, 128, .inl (fi 117))), ((a 143), .inl (K 0, 10, .inl (fi 118))), ((a 144), .inl (K 0, 200, .inl (fi 119))), ((a 145), .inl (K 0, 200, .inl (fi 120))), ((a 146), .inl (K 0, 200, .inl (fi 121))), ((a 147), .inl (K 0, 200, .inl (fi 122))), ((a 148), .inl (K 1, 200, .inl (fi 123))), ((a 149), .inl (K 0, 120, .inl (fi 124))), ((a 150), .inl (K 0, 120, .inl (fi 125))), ((a 151), .inl (K 0, 120, .inl (fi 126))), ((a 152), .inl (K 0, 120, .inl (fi 127))), ((a 153), .inl (K 0, 12, .inl (fi 128))), ((a 154), .inl (K 0, 12, .inl (fi 129))), ((a 155), .inl (K 0, 12, .inl (fi 130))), ((a 156), .inl (K 0, 12, .inl (fi 131))), ((a 157), .inl (K 0, 256, .inl (fi 132))), ((a 158), .inl (K 1, 256, .inl (fi 133))), ((a 159), .inl (K 0, 144, .inl (fi 134))), ((a 160), .inl (K 0, 12, .inl (fi 135))), ((a 161), .inl (K 0, 12, .inl (fi 136))), ((a 162), .inl (K 0, 12, .inl (fi 137))), ((a 163), .inl (K 1, 12, .inl (fi 138))), ((a 164), .inl (K 1, 12, .inl (fi 139)))]
def uHead (p : Program) (l : Launch) (e : Env) (s : State) (m : MethodId) (below : List Frame) (meth : Method) (c : Code) (D : va_G) (K : Nat → ClassId) (A : Nat → Prop) (b L : Nat) (n : Nat) : Prop :=
  ∀ (i : Nat) (a : Nat → Nat) (vn : Nat → Nat) (vi : Nat → Int32) (vl : Nat → Int64) (fi : Nat → Nat → Int32) (fl : Nat → Nat → Int64) (fo : Nat → Nat → Option Nat), uTy a vn vi vl fi fl fo → i ≤ L → L - i < n → ∀ (H : Heap) (locs : List Loc) (ls : Array Slot), va_P D vwCl (uWd K a vn vi vl fi fl fo) H → va_D A (uWd K a vn vi vl fi fl fo) → va_S A s.heap H locs → lv_has ls 4 [(0, .ref b), (1, .ref (a 97)), (2, .ref (a 98)), (3, .int (nI i))] → W p l e room_1 s m #[Value.ref b] below meth c H locs 164 17346 (lw_Z below #[Value.ref b] s) (F0 m 18 ls [])
theorem uLen {i L : Nat} (hL : L ≤ 3584) (hi : i ≤ L) (h : ¬ nI L - 7 < nI i) : i + 7 ≤ L := by
  rw [Int32.lt_iff_toInt_lt, show (7 : Int32) = nI 7 from rfl, pk_sub_toInt (by omega) (by omega), nI_toInt (by omega)] at h
  omega

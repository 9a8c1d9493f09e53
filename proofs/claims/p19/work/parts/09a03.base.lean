section UKIT
variable {p : Program} {l : Launch} {e : Env} {R : Room} {s : State} {m : MethodId} {args : Array Value} {below : List Frame} {meth : Method} {c : Code} {H : Heap} {locs : List Loc} {cells slots : Nat} {Q : State → Prop}
variable {cc : ByteArray} {pc : Nat} {ls : Array Slot} {rest : List Value} {A : Nat → Prop} {a : Nat} {H0 : Heap} {D : va_G} {K : Nat → ClassId} {own nm : String} {nL : Nat} {ret : Option FieldType} {ws : va_W}
theorem uAi {S : Type} {post : Int32 → S → Prop} {wp : S → va_W} {wc wr : va_W} {mc ms : Nat} {st0 : List Value} {av : Array Value} (hP : va_P D vwCl ws H) (hD : va_D A ws) (hS : va_S A H0 H locs) (hA : ∀ q, H0.size ≤ q → A q) (isC isR : List Nat) (hC : isC.map (fun i => ws[i]?) = wc.map some) (hR : isR.map (fun i => ws[i]?) = wr.map some) (hn : va_nd isR = true) (hdis : ∀ i ∈ isR, i ∉ isC)
    (hr : va_Run p l e R s m args below meth c H locs cells slots mc ms (F0 m pc ls st0) rest (uQi D post wp (va_A wc H.size) av) (va_A wc H.size))
    (kk : ∀ (r : Int32) (u : S) (H1 : Heap) (locs1 : List Loc), post r u → va_P D vwCl (wr ++ wp u) H1 → va_D A (wr ++ wp u) → va_S A H0 H1 locs1 → W p l e R s m args below meth c H1 locs1 (cells + mc) (slots + ms) Q (F0 m (pc + 3) ls (.int r :: rest))) : W p l e R s m args below meth c H locs cells slots Q (F0 m pc ls st0) := by
  have hFc := va_free (wc := wc) hD hS hA isC hC
  refine va_calli hr hS (fun q _ h => hFc q h) hFc (fun r u t H1 locs1 ht hvm hw hB hz1 hk1 hS1 => ?_)
  obtain ⟨hP1, hD1⟩ := hB
  rw [ht] at hP1
  obtain ⟨hP2, hD2⟩ := va_join hP hD isC isR hC hR hn hdis hk1 hFc hP1 hD1
  exact kk r u H1 locs1 hw hP2 hD2 hS1
theorem uAl {S : Type} {post : Int64 → S → Prop} {wp : S → va_W} {wc wr : va_W} {mc ms : Nat} {st0 : List Value} {av : Array Value} (hP : va_P D vwCl ws H) (hD : va_D A ws) (hS : va_S A H0 H locs) (hA : ∀ q, H0.size ≤ q → A q) (isC isR : List Nat) (hC : isC.map (fun i => ws[i]?) = wc.map some) (hR : isR.map (fun i => ws[i]?) = wr.map some) (hn : va_nd isR = true) (hdis : ∀ i ∈ isR, i ∉ isC)
    (hr : va_Run p l e R s m args below meth c H locs cells slots mc ms (F0 m pc ls st0) rest (uQl D post wp (va_A wc H.size) av) (va_A wc H.size))
    (kk : ∀ (r : Int64) (u : S) (H1 : Heap) (locs1 : List Loc), post r u → va_P D vwCl (wr ++ wp u) H1 → va_D A (wr ++ wp u) → va_S A H0 H1 locs1 → W p l e R s m args below meth c H1 locs1 (cells + mc) (slots + ms) Q (F0 m (pc + 3) ls (.long r :: rest))) : W p l e R s m args below meth c H locs cells slots Q (F0 m pc ls st0) := by
  have hFc := va_free (wc := wc) hD hS hA isC hC
  refine va_calll hr hS (fun q _ h => hFc q h) hFc (fun r u t H1 locs1 ht hvm hw hB hz1 hk1 hS1 => ?_)
  obtain ⟨hP1, hD1⟩ := hB
  rw [ht] at hP1
  obtain ⟨hP2, hD2⟩ := va_join hP hD isC isR hC hR hn hdis hk1 hFc hP1 hD1
  exact kk r u H1 locs1 hw hP2 hD2 hS1
theorem uAv {S : Type} {post : S → Prop} {wp : S → va_W} {wc wr : va_W} {mc ms : Nat} {st0 : List Value} {av : Array Value} (hP : va_P D vwCl ws H) (hD : va_D A ws) (hS : va_S A H0 H locs) (hA : ∀ q, H0.size ≤ q → A q) (isC isR : List Nat) (hC : isC.map (fun i => ws[i]?) = wc.map some) (hR : isR.map (fun i => ws[i]?) = wr.map some) (hn : va_nd isR = true) (hdis : ∀ i ∈ isR, i ∉ isC)
    (hr : va_Run p l e R s m args below meth c H locs cells slots mc ms (F0 m pc ls st0) rest (uQv D post wp (va_A wc H.size) av) (va_A wc H.size))
    (kk : ∀ (u : S) (H1 : Heap) (locs1 : List Loc), post u → va_P D vwCl (wr ++ wp u) H1 → va_D A (wr ++ wp u) → va_S A H0 H1 locs1 → W p l e R s m args below meth c H1 locs1 (cells + mc) (slots + ms) Q (F0 m (pc + 3) ls rest)) : W p l e R s m args below meth c H locs cells slots Q (F0 m pc ls st0) := by
  have hFc := va_free (wc := wc) hD hS hA isC hC
  refine va_callv hr hS (fun q _ h => hFc q h) hFc (fun u t H1 locs1 ht hvm hw hB hz1 hk1 hS1 => ?_)
  obtain ⟨hP1, hD1⟩ := hB
  rw [ht] at hP1
  obtain ⟨hP2, hD2⟩ := va_join hP hD isC isR hC hR hn hdis hk1 hFc hP1 hD1
  exact kk u H1 locs1 hw hP2 hD2 hS1
theorem uAr {S : Type} {post : Nat → S → Prop} {wp : S → va_W} {wc wr : va_W} {mc ms : Nat} {st0 : List Value} {av : Array Value} (hP : va_P D vwCl ws H) (hD : va_D A ws) (hS : va_S A H0 H locs) (hA : ∀ q, H0.size ≤ q → A q) (isC isR : List Nat) (hC : isC.map (fun i => ws[i]?) = wc.map some) (hR : isR.map (fun i => ws[i]?) = wr.map some) (hn : va_nd isR = true) (hdis : ∀ i ∈ isR, i ∉ isC)
    (hr : va_Run p l e R s m args below meth c H locs cells slots mc ms (F0 m pc ls st0) rest (uQr D post wp (va_A wc H.size) av) (va_A wc H.size))
    (kk : ∀ (r : Nat) (u : S) (H1 : Heap) (locs1 : List Loc), post r u → va_P D vwCl (wr ++ wp u) H1 → va_D A (wr ++ wp u) → va_S A H0 H1 locs1 → W p l e R s m args below meth c H1 locs1 (cells + mc) (slots + ms) Q (F0 m (pc + 3) ls (.ref r :: rest))) : W p l e R s m args below meth c H locs cells slots Q (F0 m pc ls st0) := by
  have hFc := va_free (wc := wc) hD hS hA isC hC
  refine va_callr hr hS (fun q _ h => hFc q h) hFc (fun u ra t H1 locs1 ht hvm hw hB hz1 hk1 hS1 => ?_)
  obtain ⟨u, v⟩ := u
  obtain ⟨rfl, hP1, hD1⟩ := hB
  rw [ht] at hP1
  obtain ⟨hP2, hD2⟩ := va_join hP hD isC isR hC hR hn hdis hk1 hFc hP1 hD1
  exact kk v u H1 locs1 hw hP2 hD2 hS1
theorem uVi {S : Type} {post : Int32 → S → Prop} {wp : S → va_W} {wr : va_W} {y : MethodName} {bytes : ByteArray} {maxL index n : Nat} {retc : Option FieldType} {rm : Room} {As : List Value} {C : String} {b ci : Nat} {fs : List Value} {TC : u_T} {NC : Nat} (wc : va_W) (B : uB p s m args meth c D K own nm cc nL ret A) (hls : ls.size = nL) (hP : va_P D vwCl ws H) (hD : va_D A ws) (hS : va_S A s.heap H locs) (isC isR : List Nat) (hC : isC.map (fun i => ws[i]?) = wc.map some) (hR : isR.map (fun i => ws[i]?) = wr.map some) (hnd : va_nd (isC ++ isR) = true)
    (hM : uMi l y bytes maxL retc rm (.ref b :: As) D K wc H.size post wp) (hw : uWv y C bytes maxL retc n) (hlk : Cond.methodLink own index y ∈ uTb) (hq : wc[0]? = some (b, .inr (ci, fs))) (hcl : vwCl[ci]? = some (C, TC, NC)) {st0 : List Value} (hst : st0 = As.reverse ++ .ref b :: rest) (hn : As.length = n) (hrm : rm.frames + 1 ≤ R.frames ∧ 8 + (maxL + 11) + rm.locals ≤ R.locals) (hro : (rest.map fun v => v.category).sum ≤ 8) (hcs : cells + rm.cells ≤ R.cells ∧ slots + rm.slots ≤ R.slots) (hdg : decode cc pc = .ok (.invokevirtual index, 3))
    (kk : ∀ (r : Int32) (u : S) (H1 : Heap) (locs1 : List Loc), post r u → va_P D vwCl (wr ++ wp u) H1 → va_D A (wr ++ wp u) → va_S A s.heap H1 locs1 → W p l e R s m args below meth c H1 locs1 (cells + rm.cells) (slots + rm.slots) Q (F0 m (pc + 3) ls (.int r :: rest))) : W p l e R s m args below meth c H locs cells slots Q (F0 m pc ls st0) := by
  obtain ⟨hx, hb, hr, hml, hown, hts, hlocks, hnm, hK, hA, hN, hZ⟩ := B
  have hPc : va_P D vwCl wc H := uSub hP isC hC
  obtain ⟨n1, n2, n3⟩ := uNd hnd
  have hDc : va_D A wc := hD.sub isC n1 hC
  subst hst
  exact uAi hP hD hS hA isC isR hC hR n2 n3 (va_runV (As := As) (rest := rest) ⟨hx, hb, hml, hown, hts⟩ hM (uCW hts hw.1 hw.2.1 hw.2.2.1 hlk hw.2.2.2.1 hw.2.2.2.2.1 hw.2.2.2.2.2 hrm) ⟨uBlind, va_recv hK hPc hcl hq, uPre hK hN hZ hS (va_free (wc := wc) hD hS hA isC hC) hPc hDc⟩ rfl hn hls rfl (lv_room hro) hdg hcs) kk
theorem uSi {S : Type} {post : Int32 → S → Prop} {wp : S → va_W} {wr : va_W} {y : MethodName} {bytes : ByteArray} {maxL index n : Nat} {retc : Option FieldType} {rm : Room} {As : List Value} (wc : va_W) (B : uB p s m args meth c D K own nm cc nL ret A) (hls : ls.size = nL) (hP : va_P D vwCl ws H) (hD : va_D A ws) (hS : va_S A s.heap H locs) (isC isR : List Nat) (hC : isC.map (fun i => ws[i]?) = wc.map some) (hR : isR.map (fun i => ws[i]?) = wr.map some) (hnd : va_nd (isC ++ isR) = true)
    (hM : uMi l y bytes maxL retc rm As D K wc H.size post wp) (hw : uWs y bytes maxL retc n) (hlk : Cond.methodLink own index y ∈ uTb) {st0 : List Value} (hst : st0 = As.reverse ++ rest) (hn : As.length = n) (hrm : rm.frames + 1 ≤ R.frames ∧ 8 + (maxL + 11) + rm.locals ≤ R.locals) (hro : (rest.map fun v => v.category).sum ≤ 8) (hcs : cells + rm.cells ≤ R.cells ∧ slots + rm.slots ≤ R.slots) (hdg : decode cc pc = .ok (.invokestatic index, 3))
    (kk : ∀ (r : Int32) (u : S) (H1 : Heap) (locs1 : List Loc), post r u → va_P D vwCl (wr ++ wp u) H1 → va_D A (wr ++ wp u) → va_S A s.heap H1 locs1 → W p l e R s m args below meth c H1 locs1 (cells + rm.cells) (slots + rm.slots) Q (F0 m (pc + 3) ls (.int r :: rest))) : W p l e R s m args below meth c H locs cells slots Q (F0 m pc ls st0) := by
  obtain ⟨hx, hb, hr, hml, hown, hts, hlocks, hnm, hK, hA, hN, hZ⟩ := B
  have hPc : va_P D vwCl wc H := uSub hP isC hC
  obtain ⟨n1, n2, n3⟩ := uNd hnd
  have hDc : va_D A wc := hD.sub isC n1 hC
  subst hst
  exact uAi hP hD hS hA isC isR hC hR n2 n3 (va_runS (As := As) (rest := rest) ⟨hx, hb, hml, hown, hts⟩ hM (uCS hts hw.1 hw.2.1 hlk hw.2.2.1 hw.2.2.2 hrm) ⟨uBlind, uPre hK hN hZ hS (va_free (wc := wc) hD hS hA isC hC) hPc hDc⟩ rfl hn hls rfl (lv_room hro) hdg hcs) kk
theorem uVl {S : Type} {post : Int64 → S → Prop} {wp : S → va_W} {wr : va_W} {y : MethodName} {bytes : ByteArray} {maxL index n : Nat} {retc : Option FieldType} {rm : Room} {As : List Value} {C : String} {b ci : Nat} {fs : List Value} {TC : u_T} {NC : Nat} (wc : va_W) (B : uB p s m args meth c D K own nm cc nL ret A) (hls : ls.size = nL) (hP : va_P D vwCl ws H) (hD : va_D A ws) (hS : va_S A s.heap H locs) (isC isR : List Nat) (hC : isC.map (fun i => ws[i]?) = wc.map some) (hR : isR.map (fun i => ws[i]?) = wr.map some) (hnd : va_nd (isC ++ isR) = true)
    (hM : uMl l y bytes maxL retc rm (.ref b :: As) D K wc H.size post wp) (hw : uWv y C bytes maxL retc n) (hlk : Cond.methodLink own index y ∈ uTb) (hq : wc[0]? = some (b, .inr (ci, fs))) (hcl : vwCl[ci]? = some (C, TC, NC)) {st0 : List Value} (hst : st0 = As.reverse ++ .ref b :: rest) (hn : As.length = n) (hrm : rm.frames + 1 ≤ R.frames ∧ 8 + (maxL + 11) + rm.locals ≤ R.locals) (hro : (rest.map fun v => v.category).sum ≤ 8) (hcs : cells + rm.cells ≤ R.cells ∧ slots + rm.slots ≤ R.slots) (hdg : decode cc pc = .ok (.invokevirtual index, 3))
    (kk : ∀ (r : Int64) (u : S) (H1 : Heap) (locs1 : List Loc), post r u → va_P D vwCl (wr ++ wp u) H1 → va_D A (wr ++ wp u) → va_S A s.heap H1 locs1 → W p l e R s m args below meth c H1 locs1 (cells + rm.cells) (slots + rm.slots) Q (F0 m (pc + 3) ls (.long r :: rest))) : W p l e R s m args below meth c H locs cells slots Q (F0 m pc ls st0) := by
  obtain ⟨hx, hb, hr, hml, hown, hts, hlocks, hnm, hK, hA, hN, hZ⟩ := B
  have hPc : va_P D vwCl wc H := uSub hP isC hC
  obtain ⟨n1, n2, n3⟩ := uNd hnd
  have hDc : va_D A wc := hD.sub isC n1 hC
  subst hst
  exact uAl hP hD hS hA isC isR hC hR n2 n3 (va_runV (As := As) (rest := rest) ⟨hx, hb, hml, hown, hts⟩ hM (uCW hts hw.1 hw.2.1 hw.2.2.1 hlk hw.2.2.2.1 hw.2.2.2.2.1 hw.2.2.2.2.2 hrm) ⟨uBlind, va_recv hK hPc hcl hq, uPre hK hN hZ hS (va_free (wc := wc) hD hS hA isC hC) hPc hDc⟩ rfl hn hls rfl (lv_room hro) hdg hcs) kk

end UKIT

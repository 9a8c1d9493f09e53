section UKIT
variable {p : Program} {l : Launch} {e : Env} {R : Room} {s : State} {m : MethodId} {args : Array Value} {below : List Frame} {meth : Method} {c : Code} {H : Heap} {locs : List Loc} {cells slots : Nat} {Q : State → Prop}
variable {cc : ByteArray} {pc : Nat} {ls : Array Slot} {rest : List Value} {A : Nat → Prop} {a : Nat} {H0 : Heap} {D : va_G} {K : Nat → ClassId} {own nm : String} {nL : Nat} {ret : Option FieldType} {ws : va_W}
theorem uAlen {x : vp_A} {v : Int32} {t0 : Nat} {ty : FieldType} (B : uB p s m args meth c D K own nm cc nL ret A) (hP : va_P D vwCl ws H) (q0 : Nat) (ha : ws[q0]? = some (a, .inl (K t0, x))) (ht : (uT K)[t0]? = some (K t0, ty)) (hv : Int32.ofNat x.1 = v) (hdg : decode cc pc = .ok (.arraylength, 1)) (kk : W p l e R s m args below meth c H locs cells slots Q (F0 m (pc + 1) ls (.int v :: rest))) : W p l e R s m args below meth c H locs cells slots Q (F0 m pc ls (.ref a :: rest)) := by
  obtain ⟨hx, hb, hr, hml, hown, hts, hlocks, hnm, hK, hA, hN, hZ⟩ := B
  exact va_alen hx hb hK hP q0 t0 ha ht hv hdg kk
/-- a new array of a kind whose class is known already -/
theorem uNewa {atype : ArrayType} {t0 : Nat} {ty : FieldType} {n : Int32} {N' : Nat} {a0 : vp_A} (B : uB p s m args meth c D K own nm cc nL ret A) (harr : Cond.arrayClass (newarray.typeOf atype) ∈ uTb) (hty : newarray.typeOf atype = ty) (ht : (uT K)[t0]? = some (K t0, ty)) (hob : ∀ C : String, ty ≠ .object C) (hP : va_P D vwCl ws H) (hD : va_D A ws) (hS : va_S A s.heap H locs) (ha : ∀ cA : ClassId, vp_cell cA a0 = arrV cA N' (fun _ => defaultValue ty)) (hn : ¬ n < 0) (hNn : n.toNatClampNeg = N') (hbytes : N' * componentBytes ty ≤ 536870912) (hcells : cells + 1 ≤ R.cells) (hslots : slots + N' ≤ R.slots) (hdg : decode cc pc = .ok (.newarray atype, 2))
    (kk : ∀ (q : Nat) (H1 : Heap), va_P D vwCl (ws ++ [(q, .inl (K t0, a0))]) H1 → va_D A (ws ++ [(q, .inl (K t0, a0))]) → va_S A s.heap H1 locs → W p l e R s m args below meth c H1 locs (cells + 1) (slots + N') Q (F0 m (pc + 2) ls (.ref q :: rest))) : W p l e R s m args below meth c H locs cells slots Q (F0 m pc ls (.int n :: rest)) := by
  obtain ⟨hx, hb, hr, hml, hown, hts, hlocks, hnm, hK, hA, hN, hZ⟩ := B
  refine va_newa hx hb (hts _ harr) hty hK hP hD hS hA ha hn hNn hbytes hcells hslots hdg (fun q cA H1 hK2 hP2 hD2 hS2 => ?_)
  have h1 := (hK.2 t0 _ ht).2
  have h2 := (hK2.2 (uT K).length (cA, ty) (by rw [List.getElem?_append_right (Nat.le_refl _), Nat.sub_self]; rfl)).2
  have e : cA = K t0 := by
    cases ty <;> first | exact Option.some.inj (h2.symm.trans h1) | exact absurd rfl (hob _)
  subst e
  exact kk q H1 hP2 hD2 hS2
theorem uNew {C : String} {T : u_T} {N ci index : Nat} (B : uB p s m args meth c D K own nm cc nL ret A) (hin : ∀ w ∈ u_ws C T N, w ∈ uTb) {ty : Nat → FieldType} (hty : ∀ k, k < N → parseFieldDescriptor (T k).2.2.1 = some (ty k)) (hcl : Cond.classLink own index C ∈ uTb) (hinst : Cond.instantiable C N ∈ uTb) (hini : Cond.initialized C ∈ uTb) (hP : va_P D vwCl ws H) (hD : va_D A ws) (hS : va_S A s.heap H locs) (hc : vwCl[ci]? = some (C, T, N)) {fs : List Value} (hfs : (List.range N).all (fun j => decide (defaultValue (ty j) = vp_V fs j)) = true) (hcells : cells + 1 ≤ R.cells) (hslots : slots + N ≤ R.slots) (hdg : decode cc pc = .ok (.new index, 3)) (kk : ∀ (q : Nat) (H1 : Heap), va_P D vwCl (ws ++ [(q, .inr (ci, fs))]) H1 → va_D A (ws ++ [(q, .inr (ci, fs))]) → va_S A s.heap H1 locs → W p l e R s m args below meth c H1 locs (cells + 1) (slots + N) Q (F0 m (pc + 3) ls (.ref q :: rest))) : W p l e R s m args below meth c H locs cells slots Q (F0 m pc ls rest) := by
  obtain ⟨hx, hb, hr, hml, hown, hts, hlocks, hnm, hK, hA, hN, hZ⟩ := B
  exact va_new hx hb hts hin ty hty hown (hts _ hcl) (hts _ hinst) (hts _ hini) hK hP hD hS hA hc (fun j hj => of_decide_eq_true (List.all_eq_true.mp hfs j (List.mem_range.mpr hj))) hcells hslots hdg kk
theorem uObj {idx : Nat} (B : uB p s m args meth c D K own nm cc nL ret A) (hls : ls.size = nL) (hlink : Cond.methodLink own idx objectInit ∈ uTb) (hdg : decode cc pc = .ok (.invokespecial idx, 3)) (hframes : 1 ≤ R.frames) (hlocals : (rest.map fun v => v.category).sum + 12 ≤ R.locals) (kk : W p l e R s m args below meth c H locs cells slots Q (F0 m (pc + 3) ls rest)) : W p l e R s m args below meth c H locs cells slots Q (F0 m pc ls (.ref a :: rest)) := by
  obtain ⟨hx, hb, hr, hml, hown, hts, hlocks, hnm, hK, hA, hN, hZ⟩ := B
  refine W.objInit hx hb hown (hts _ hlink) (hts _ mim_objectInit) (hts _ mco_objectInit) rfl (by rw [hml]; exact hls) rfl hdg hframes ?_ kk
  show 2 * 0 + _ + 12 ≤ _
  omega
theorem uLdc {index : Nat} {v : Int32} (B : uB p s m args meth c D K own nm cc nL ret A) (hconst : Cond.constant own index v ∈ uTb) (hdg : decode cc pc = .ok (.ldc index, 2)) (k : W p l e R s m args below meth c H locs cells slots Q (F0 m (pc + 2) ls (.int v :: rest))) : W p l e R s m args below meth c H locs cells slots Q (F0 m pc ls rest) := by
  obtain ⟨hx, hb, hr, hml, hown, hts, hlocks, hnm, hK, hA, hN, hZ⟩ := B
  exact lv_ldc hx hb hown (hts _ hconst) hdg k
theorem uINv {S : Type} {post : S → Prop} {wp : S → va_W} {wr : va_W} {y : MethodName} {bytes : ByteArray} {maxL index n : Nat} {rm : Room} {As : List Value} {b : Nat} (wc : va_W) (B : uB p s m args meth c D K own nm cc nL ret A) (hls : ls.size = nL) (hP : va_P D vwCl ws H) (hD : va_D A ws) (hS : va_S A s.heap H locs) (isC isR : List Nat) (hC : isC.map (fun i => ws[i]?) = wc.map some) (hR : isR.map (fun i => ws[i]?) = wr.map some) (hnd : va_nd (isC ++ isR) = true)
    (hM : uMv l y bytes maxL rm (.ref b :: As) D K wc H.size post wp) (hw : uWi y bytes maxL n) {host : String} (hlk : va_Nw (.methodLinkNest own index y host) s) {st0 : List Value} (hst : st0 = As.reverse ++ .ref b :: rest) (hn : As.length = n) (hrm : rm.frames + 1 ≤ R.frames ∧ 8 + (maxL + 11) + rm.locals ≤ R.locals) (hro : (rest.map fun v => v.category).sum ≤ 8) (hcs : cells + rm.cells ≤ R.cells ∧ slots + rm.slots ≤ R.slots) (hdg : decode cc pc = .ok (.invokespecial index, 3))
    (kk : ∀ (u : S) (H1 : Heap) (locs1 : List Loc), post u → va_P D vwCl (wr ++ wp u) H1 → va_D A (wr ++ wp u) → va_S A s.heap H1 locs1 → W p l e R s m args below meth c H1 locs1 (cells + rm.cells) (slots + rm.slots) Q (F0 m (pc + 3) ls rest)) : W p l e R s m args below meth c H locs cells slots Q (F0 m pc ls st0) := by
  obtain ⟨hx, hb, hr, hml, hown, hts, hlocks, hnm, hK, hA, hN, hZ⟩ := B
  have hPc : va_P D vwCl wc H := uSub hP isC hC
  obtain ⟨n1, n2, n3⟩ := uNd hnd
  have hDc : va_D A wc := hD.sub isC n1 hC
  subst hst
  exact uAv hP hD hS hA isC isR hC hR n2 n3 (va_runIN (As := As) (rest := rest) ⟨hx, hb, hml, hown, hts⟩ hM ⟨va_cnB n hts (uGoodC hw.1) rfl rfl rfl hlk (hts _ hw.2.1) hw.2.2.2.2 hrm, hw.2.2.2.1, hts _ hw.2.2.1⟩ ⟨uBlind, uPre hK hN hZ hS (va_free (wc := wc) hD hS hA isC hC) hPc hDc⟩ rfl hn hls rfl (lv_room hro) hdg hcs) kk
theorem uSNi {S : Type} {post : Int32 → S → Prop} {wp : S → va_W} {wr : va_W} {y : MethodName} {bytes : ByteArray} {maxL index n : Nat} {retc : Option FieldType} {rm : Room} {As : List Value} (wc : va_W) (B : uB p s m args meth c D K own nm cc nL ret A) (hls : ls.size = nL) (hP : va_P D vwCl ws H) (hD : va_D A ws) (hS : va_S A s.heap H locs) (isC isR : List Nat) (hC : isC.map (fun i => ws[i]?) = wc.map some) (hR : isR.map (fun i => ws[i]?) = wr.map some) (hnd : va_nd (isC ++ isR) = true)
    (hM : uMi l y bytes maxL retc rm As D K wc H.size post wp) (hw : uWs y bytes maxL retc n) {host : String} (hlk : va_Nw (.methodLinkNest own index y host) s) {st0 : List Value} (hst : st0 = As.reverse ++ rest) (hn : As.length = n) (hrm : rm.frames + 1 ≤ R.frames ∧ 8 + (maxL + 11) + rm.locals ≤ R.locals) (hro : (rest.map fun v => v.category).sum ≤ 8) (hcs : cells + rm.cells ≤ R.cells ∧ slots + rm.slots ≤ R.slots) (hdg : decode cc pc = .ok (.invokestatic index, 3))
    (kk : ∀ (r : Int32) (u : S) (H1 : Heap) (locs1 : List Loc), post r u → va_P D vwCl (wr ++ wp u) H1 → va_D A (wr ++ wp u) → va_S A s.heap H1 locs1 → W p l e R s m args below meth c H1 locs1 (cells + rm.cells) (slots + rm.slots) Q (F0 m (pc + 3) ls (.int r :: rest))) : W p l e R s m args below meth c H locs cells slots Q (F0 m pc ls st0) := by
  obtain ⟨hx, hb, hr, hml, hown, hts, hlocks, hnm, hK, hA, hN, hZ⟩ := B
  have hPc : va_P D vwCl wc H := uSub hP isC hC
  obtain ⟨n1, n2, n3⟩ := uNd hnd
  have hDc : va_D A wc := hD.sub isC n1 hC
  subst hst
  exact uAi hP hD hS hA isC isR hC hR n2 n3 (va_runSN (As := As) (rest := rest) ⟨hx, hb, hml, hown, hts⟩ hM ⟨va_cnB n hts (uGoodC hw.1) rfl rfl rfl hlk (hts _ hw.2.1) hw.2.2.2 hrm, hts _ hw.2.2.1, trivial⟩ ⟨uBlind, uPre hK hN hZ hS (va_free (wc := wc) hD hS hA isC hC) hPc hDc⟩ rfl hn hls rfl (lv_room hro) hdg hcs) kk

end UKIT

section UKIT
variable {p : Program} {l : Launch} {e : Env} {R : Room} {s : State} {m : MethodId} {args : Array Value} {below : List Frame} {meth : Method} {c : Code} {H : Heap} {locs : List Loc} {cells slots : Nat} {Q : State → Prop}
variable {cc : ByteArray} {pc : Nat} {ls : Array Slot} {rest : List Value} {A : Nat → Prop} {a : Nat} {H0 : Heap} {D : va_G} {K : Nat → ClassId} {own nm : String} {nL : Nat} {ret : Option FieldType} {ws : va_W}
theorem uScom {index : Nat} (B : uB p s m args meth c D K own nm cc nL ret A) (hS : va_S A s.heap H locs) (hlink : Cond.fieldLink own index "java/lang/String" "COMPACT_STRINGS" "Z" ∈ uTb) (hdg : decode cc pc = .ok (.getstatic index, 3)) (kk : W p l e R s m args below meth c H locs cells slots Q (F0 m (pc + 3) ls (.int 1 :: rest))) : W p l e R s m args below meth c H locs cells slots Q (F0 m pc ls rest) := by
  obtain ⟨hx, hb, hr, hml, hown, hts, hlocks, hnm, hK, hA, hN, hZ⟩ := B
  exact va_gets hx hb hZ.2.2.2.1 hS hown (hts _ hlink) (fun _ h => h) hdg kk
theorem uSfmt {index : Nat} (B : uB p s m args meth c D K own nm cc nL ret A) (hS : va_S A s.heap H locs) (hlink : Cond.fieldLink own index "jdk/internal/util/Preconditions" "SIOOBE_FORMATTER" "Ljava/util/function/BiFunction;" ∈ uTb) (hdg : decode cc pc = .ok (.getstatic index, 3)) (k1 : W p l e R s m args below meth c H locs cells slots Q (F0 m (pc + 3) ls (.null :: rest))) (k2 : ∀ t : Nat, W p l e R s m args below meth c H locs cells slots Q (F0 m (pc + 3) ls (.ref t :: rest))) : W p l e R s m args below meth c H locs cells slots Q (F0 m pc ls rest) := by
  obtain ⟨hx, hb, hr, hml, hown, hts, hlocks, hnm, hK, hA, hN, hZ⟩ := B
  rcases hZ.2.2.2.2 with h | ⟨t, h⟩
  · exact va_gets hx hb h hS hown (hts _ hlink) (fun _ h => h) hdg k1
  · exact va_gets hx hb h hS hown (hts _ hlink) (fun _ h => h) hdg (k2 t)
theorem uSlen (B : uB p s m args meth c D K own nm cc nL ret A) (hS : va_S A s.heap H locs) (hdg : decode cc pc = .ok (.arraylength, 1)) (kk : W p l e R s m args below meth c H locs cells slots Q (F0 m (pc + 1) ls (.int 65 :: rest))) : W p l e R s m args below meth c H locs cells slots Q (F0 m pc ls (.ref (K 11) :: rest)) := by
  obtain ⟨hx, hb, hr, hml, hown, hts, hlocks, hnm, hK, hA, hN, hZ⟩ := B
  exact va_tlen hx hb (hZ.1.1 0 (by decide)).2.2.2 hS rfl hdg kk
theorem uSbyt {i : Int32} {j : Nat} (B : uB p s m args meth c D K own nm cc nL ret A) (hS : va_S A s.heap H locs) (hin : ¬ (i < 0 ∨ 65 ≤ i.toNatClampNeg)) (hj : i.toNatClampNeg = j) (hdg : decode cc pc = .ok (.baload, 1)) (kk : W p l e R s m args below meth c H locs cells slots Q (F0 m (pc + 1) ls (.int (uByt.getD j 0) :: rest))) : W p l e R s m args below meth c H locs cells slots Q (F0 m pc ls (.int i :: .ref (K 11) :: rest)) := by
  obtain ⟨hx, hb, hr, hml, hown, hts, hlocks, hnm, hK, hA, hN, hZ⟩ := B
  subst hj
  exact va_tb hx hb (hZ.1.1 0 (by decide)).2.2.2 hS hin rfl hdg kk
theorem uSldc10 (B : uB p s m args meth c D K RX10 nm cc nL ret A) (hdg : decode cc pc = .ok (.ldc 45, 2)) (kk : W p l e R s m args below meth c H locs cells slots Q (F0 m (pc + 2) ls (.ref (K 10) :: rest))) : W p l e R s m args below meth c H locs cells slots Q (F0 m pc ls rest) := by
  obtain ⟨hx, hb, hr, hml, hown, hts, hlocks, hnm, hK, hA, hN, hZ⟩ := B
  exact va_ldcS hx hb hown hZ.2.1 hdg kk
theorem uTi {S : Type} {post : Int32 → S → Prop} {wp : S → va_W} {wr : va_W} {y : MethodName} {bytes : ByteArray} {maxL index n : Nat} {retc : Option FieldType} {rm : Room} {As : List Value} {C : String} (wc : va_W) (B : uB p s m args meth c D K own nm cc nL ret A) (hls : ls.size = nL) (hP : va_P D vwCl ws H) (hD : va_D A ws) (hS : va_S A s.heap H locs) (isC isR : List Nat) (hC : isC.map (fun i => ws[i]?) = wc.map some) (hR : isR.map (fun i => ws[i]?) = wr.map some) (hnd : va_nd (isC ++ isR) = true)
    (hM : uMi l y bytes maxL retc rm (.ref (K 10) :: As) D K wc H.size post wp) (hw : uWv y C bytes maxL retc n) (hlk : Cond.methodLink own index y ∈ uTb) (hCs : C = "java/lang/String") {st0 : List Value} (hst : st0 = As.reverse ++ .ref (K 10) :: rest) (hn : As.length = n) (hrm : rm.frames + 1 ≤ R.frames ∧ 8 + (maxL + 11) + rm.locals ≤ R.locals) (hro : (rest.map fun v => v.category).sum ≤ 8) (hcs : cells + rm.cells ≤ R.cells ∧ slots + rm.slots ≤ R.slots) (hdg : decode cc pc = .ok (.invokevirtual index, 3))
    (kk : ∀ (r : Int32) (u : S) (H1 : Heap) (locs1 : List Loc), post r u → va_P D vwCl (wr ++ wp u) H1 → va_D A (wr ++ wp u) → va_S A s.heap H1 locs1 → W p l e R s m args below meth c H1 locs1 (cells + rm.cells) (slots + rm.slots) Q (F0 m (pc + 3) ls (.int r :: rest))) : W p l e R s m args below meth c H locs cells slots Q (F0 m pc ls st0) := by
  obtain ⟨hx, hb, hr, hml, hown, hts, hlocks, hnm, hK, hA, hN, hZ⟩ := B
  have hPc : va_P D vwCl wc H := uSub hP isC hC
  obtain ⟨n1, n2, n3⟩ := uNd hnd
  have hDc : va_D A wc := hD.sub isC n1 hC
  subst hst
  exact uAi hP hD hS hA isC isR hC hR n2 n3 (va_runV (As := As) (rest := rest) ⟨hx, hb, hml, hown, hts⟩ hM (uCW hts hw.1 hw.2.1 hw.2.2.1 hlk hw.2.2.2.1 hw.2.2.2.2.1 hw.2.2.2.2.2 hrm) ⟨uBlind, hCs ▸ vk_recv hZ.1 (i := 0) (by decide) hS, uPre hK hN hZ hS (va_free (wc := wc) hD hS hA isC hC) hPc hDc⟩ rfl hn hls rfl (lv_room hro) hdg hcs) kk
theorem uLdc2 {index : Nat} {v : Int64} (B : uB p s m args meth c D K own nm cc nL ret A) (hconst : Cond.constantLong own index v ∈ uTb) (hdg : decode cc pc = .ok (.ldc2_w index, 3)) (k : W p l e R s m args below meth c H locs cells slots Q (F0 m (pc + 3) ls (.long v :: rest))) : W p l e R s m args below meth c H locs cells slots Q (F0 m pc ls rest) := by
  obtain ⟨hx, hb, hr, hml, hown, hts, hlocks, hnm, hK, hA, hN, hZ⟩ := B
  exact lv_ldc2 hx hb hown (hts _ hconst) hdg k

end UKIT

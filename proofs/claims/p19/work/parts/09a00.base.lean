section UKIT
variable {p : Program} {l : Launch} {e : Env} {R : Room} {s : State} {m : MethodId} {args : Array Value} {below : List Frame} {meth : Method} {c : Code} {H : Heap} {locs : List Loc} {cells slots : Nat} {Q : State → Prop}
variable {cc : ByteArray} {pc : Nat} {ls : Array Slot} {rest : List Value} {A : Nat → Prop} {a : Nat} {H0 : Heap} {D : va_G} {K : Nat → ClassId} {own nm : String} {nL : Nat} {ret : Option FieldType} {ws : va_W}
theorem lv_fixi {x y : Int32} (h : x = y) (k : W p l e R s m args below meth c H locs cells slots Q (F0 m pc ls (.int y :: rest))) : W p l e R s m args below meth c H locs cells slots Q (F0 m pc ls (.int x :: rest)) := h ▸ k
theorem lv_pc {q : Nat} {st : List Value} (h : pc = q) (k : W p l e R s m args below meth c H locs cells slots Q (F0 m q ls st)) : W p l e R s m args below meth c H locs cells slots Q (F0 m pc ls st) := h ▸ k
theorem uPre {av : List Value} (hK : va_K D vwCl (uT K) s) (hN : uNs s) (hZ : uZ K A s s.heap) (hS : va_S A s.heap H locs) (hF : ∀ q, va_A ws H.size q → A q) (hP : va_P D vwCl ws H) (hD : va_D A ws) : ∀ U : State, U.heap = H → s.WarmedH U.vm → va_Pc av (uP D K ws H.size) av.toArray U := fun U hU hW => ⟨rfl, by rw [hU], by rw [hU]; exact hP, va_K.moved hW.alike hK, hD.weaken (fun _ _ _ _ => trivial), hN.warm hW, by rw [hU]; exact hZ.to hW hF hS.2.1⟩
/-- a body: from its start -/
theorem uMet {y : MethodName} {rm : Room} {av : List Value} {sz mc ms : Nat} (Qc : (Nat → Prop) → Array Value → State → Outcome → State → Prop) (hy : plainName y.cls = true) (hav : (lg_sl av).length ≤ nL)
    (h : ∀ (p : Program) (e : Env) (s : State) (m : MethodId) (below : List Frame) (meth : Method) (c : Code) (A : Nat → Prop) (ls : Array Slot), A = va_A ws s.heap.size → s.heap.size = sz → uB p s m av.toArray meth c D K y.cls y.name cc nL ret A → va_P D vwCl ws s.heap → va_D A ws → va_S A s.heap s.heap [] → lv_has ls nL (lv_args 0 av) →
      W p l e rm s m av.toArray below meth c s.heap [] 0 0 (MQ below (Qc A) av.toArray s mc ms A) (F0 m 0 ls [])) : Met l y (uw y cc nL ret) rm (va_Pc av (uP D K ws sz)) (Qc (va_A ws sz)) mc ms (va_A ws sz) := by
  refine Met.ofW (cc := cc) (maxL := nL) (ret := ret) hy rfl ?_
  intro p e s m args below meth c s₁ B hml hv
  obtain ⟨rfl, hsz, hP, hK, hD0, hN, hZ⟩ := hv
  have hts := atoms_spec (ws := uw y cc nL ret) B.pre
  subst hsz
  have hl := lv_entry av (n := nL) hav
  rw [lg_entry_eq]
  generalize hls : (lg_sl av ++ List.replicate (nL - (lg_sl av).length) Slot.unset).toArray = ls at hl ⊢
  exact h p e s m below meth c (va_A ws s.heap.size) ls rfl rfl ⟨B.exec, B.bytes, B.returns, hml, findClass_of_methodNamed B.named, fun w hw => hts w (List.mem_cons_of_mem _ hw), B.notSynchronized, (name_of_methodNamed B.named B.method).1, hK, fun q hq => Or.inr hq, hN, hZ⟩ hP (hD0.self (sz := s.heap.size)) va_S.rf hl
/-- a world before an invokevirtual of an own method -/
theorem uCW {y : MethodName} {bytes : ByteArray} {maxL index n : Nat} {retc : Option FieldType} {rm : Room} {C : String} (ht : ∀ w ∈ uTb, w.before args s = true) (hC : y.cls = C) (hc : Cond.code y bytes maxL retc ∈ uTb) (hini : Cond.initialized C ∈ uTb) (hl : Cond.methodLink own index y ∈ uTb) (hin : Cond.instanceMethod y ∈ uTb) (hse : Cond.selects C y y ∈ uTb)
    (hd : y.cls ≠ "java/lang/invoke/MethodHandle" ∧ y.cls ≠ "java/lang/invoke/VarHandle" ∧ (parseMethodDescriptor y.desc).map (fun d => d.parameters.length) = some n) (hR : rm.frames + 1 ≤ R.frames ∧ 8 + (maxL + 11) + rm.locals ≤ R.locals) : CallW R s args own C index y bytes maxL retc (uw y bytes maxL retc) rm rm.cells rm.slots n := by
  subst hC
  exact ⟨callB_of n ht (uGoodC hc) rfl rfl rfl (ht _ hini) (ht _ hl) hd hR, ht _ hin, ht _ hse⟩
theorem uCS {y : MethodName} {bytes : ByteArray} {maxL index n : Nat} {retc : Option FieldType} {rm : Room} (ht : ∀ w ∈ uTb, w.before args s = true) (hc : Cond.code y bytes maxL retc ∈ uTb) (hini : Cond.initialized y.cls ∈ uTb) (hl : Cond.methodLink own index y ∈ uTb) (hst : Cond.static y ∈ uTb)
    (hd : y.cls ≠ "java/lang/invoke/MethodHandle" ∧ y.cls ≠ "java/lang/invoke/VarHandle" ∧ (parseMethodDescriptor y.desc).map (fun d => d.parameters.length) = some n) (hR : rm.frames + 1 ≤ R.frames ∧ 8 + (maxL + 11) + rm.locals ≤ R.locals) : CallB R s args own index y bytes maxL retc (uw y bytes maxL retc) rm rm.cells rm.slots n ∧ (Cond.static y).before args s = true :=
  ⟨callB_of n ht (uGoodC hc) rfl rfl rfl (ht _ hini) (ht _ hl) hd hR, ht _ hst⟩

end UKIT

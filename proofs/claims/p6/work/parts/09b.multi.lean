/-- an outer array of N places: the first i hold the rows that lie behind it -/
def uYo (cA : ClassId) (N h i : Nat) : Cell := arrV cA N (fun j => if j < i then .ref (h + 1 + j) else .null)
/-- the state with the outer array and its first i rows -/
def uYf (S : State) (cA cB : ClassId) (N K : Nat) (dv : Value) : Nat → State
  | 0 => S.pushCell (uYo cA N S.heap.size 0)
  | i + 1 => ((uYf S cA cB N K dv i).pushCell { cls := cB, slots := Array.replicate K dv, vm := .none }).setCell S.heap.size (uYo cA N S.heap.size (i + 1))
theorem uYo_new (cA : ClassId) (N h : Nat) : ({ cls := cA, slots := Array.replicate N .null, vm := .none } : Cell) = uYo cA N h 0 := by
  rw [arrV_new]
  unfold uYo
  refine congrArg (arrV cA N) (funext fun j => ?_)
  simp
theorem uYo_set (cA : ClassId) (N h i : Nat) : (uYo cA N h i).setSlot i (.ref (h + 1 + i)) = uYo cA N h (i + 1) := by
  unfold uYo
  rw [arrV_store]
  refine congrArg (arrV cA N) (funext fun j => ?_)
  unfold updV
  by_cases e : j = i
  · subst e
    simp
  · by_cases h1 : j < i
    · simp [e, h1, Nat.lt_succ_of_lt h1]
    · simp [e, h1, show ¬ j < i + 1 by omega]
theorem uYo_size (cA : ClassId) (N h i : Nat) : (uYo cA N h i).slots.size = N := arrV_size ..
theorem uYf_facts (S : State) (cA cB : ClassId) (N K : Nat) (dv : Value) : ∀ i : Nat, (uYf S cA cB N K dv i).heap.size = S.heap.size + 1 + i ∧ (uYf S cA cB N K dv i).vm = S.vm ∧ (uYf S cA cB N K dv i).slotsUsed = S.slotsUsed + N + i * K ∧ (uYf S cA cB N K dv i).topJava? = S.topJava? ∧ (uYf S cA cB N K dv i).fitsSlot = S.fitsSlot ∧ (uYf S cA cB N K dv i).heap[S.heap.size]? = some (uYo cA N S.heap.size i)
  | 0 => by
    refine ⟨?_, rfl, ?_, rfl, rfl, ?_⟩
    · show (S.heap.push _).size = _
      rw [Array.size_push]
    · show S.slotsUsed + (uYo cA N S.heap.size 0).slots.size = _
      rw [uYo_size]
      omega
    · show (S.heap.push _)[S.heap.size]? = _
      simp
  | i + 1 => by
    obtain ⟨h1, h2, h3, h4, h5, -⟩ := uYf_facts S cA cB N K dv i
    refine ⟨?_, h2, ?_, h4, h5, ?_⟩
    · show (((uYf S cA cB N K dv i).heap.push _).setIfInBounds _ _).size = _
      rw [Array.size_setIfInBounds, Array.size_push, h1]
      omega
    · show (uYf S cA cB N K dv i).slotsUsed + (Array.replicate K dv).size = _
      rw [h3, Array.size_replicate, Nat.succ_mul]
      omega
    · show (((uYf S cA cB N K dv i).heap.push _).setIfInBounds S.heap.size _)[S.heap.size]? = _
      rw [Array.getElem?_setIfInBounds_self_of_lt]
      rw [Array.size_push, h1]
      omega
theorem uYf_old (S : State) (cA cB : ClassId) (N K : Nat) (dv : Value) {x : Nat} (hx : x < S.heap.size) : ∀ i : Nat, (uYf S cA cB N K dv i).heap[x]? = S.heap[x]?
  | 0 => by
    show (S.heap.push _)[x]? = _
    rw [Array.getElem?_push, if_neg (by omega)]
  | i + 1 => by
    show (((uYf S cA cB N K dv i).heap.push _).setIfInBounds S.heap.size _)[x]? = _
    rw [Array.getElem?_setIfInBounds_ne (by omega), Array.getElem?_push, if_neg (by have := (uYf_facts S cA cB N K dv i).1; omega)]
    exact uYf_old S cA cB N K dv hx i
theorem uYf_row (S : State) (cA cB : ClassId) (N K : Nat) (dv : Value) : ∀ i j : Nat, j < i → (uYf S cA cB N K dv i).heap[S.heap.size + 1 + j]? = some { cls := cB, slots := Array.replicate K dv, vm := .none }
  | 0, j, h => absurd h (Nat.not_lt_zero j)
  | i + 1, j, h => by
    have h1 := (uYf_facts S cA cB N K dv i).1
    show (((uYf S cA cB N K dv i).heap.push _).setIfInBounds S.heap.size _)[S.heap.size + 1 + j]? = _
    rw [Array.getElem?_setIfInBounds_ne (by omega), Array.getElem?_push]
    by_cases e : j = i
    · rw [if_pos (by omega)]
    · rw [if_neg (by omega)]
      exact uYf_row S cA cB N K dv i j (by omega)
theorem uYf_top (S : State) (f : JFrame) (cA cB : ClassId) (N K : Nat) (dv : Value) : ∀ i : Nat, uYf (S.setTop f) cA cB N K dv i = (uYf S cA cB N K dv i).setTop f
  | 0 => rfl
  | i + 1 => by
    show ((uYf (S.setTop f) cA cB N K dv i).pushCell _).setCell S.heap.size _ = _
    rw [uYf_top S f cA cB N K dv i]
    rfl
section UYW
variable {E : CtlPost} {e : Env}
theorem uYn {s : State} {d : Bool} {acts : List Action} {Q : Addr → Pre} {cA comp : ClassId} {k : Class} {type : FieldType} {len : Nat} {ini : Value} (hk : s.vm.classes[cA]? = some k) (hkind : k.kind = .array comp type)
    (hl : ¬ len > e.platform.arrayLengthLimit) (hh : ¬ len * componentBytes type > e.platform.maxHeapBytes) (hc : s.heap.size < e.platform.maxCells) (hs : s.slotsUsed + len ≤ e.platform.maxSlots) (hfit : fits type ini = true)
    (hq : ∀ acts', Q s.heap.size d acts' (s.pushCell { cls := cA, slots := Array.replicate len ini, vm := .none })) : wp (Jvm.newArray cA len ini) Q E e d acts s := by
  have hfits : ∀ i v, (Array.replicate len ini)[i]? = some v → s.fitsSlot cA .none i v = true := by
    intro i v hv
    rw [Array.getElem?_replicate] at hv
    split at hv
    · cases hv
      simp [State.fitsSlot, State.slotType?, hk, hkind, hfit]
    · cases hv
  have hm : ¬ len > e.platform.maxSlots := by omega
  simp only [Jvm.newArray, Jvm.arrayFits, wp_bind', Jvm.W.ite, Jvm.W.ask, hl, hh, hm, if_false, wp_pure', Jvm.W.theClass, hk, hkind, Jvm.W.alloc, Jvm.W.stop, Option.some.injEq, exists_eq_left', Array.size_replicate]
  exact ⟨hc, hs, hfits, hq _⟩
theorem uYm1 {s : State} {d : Bool} {acts : List Action} {Q : Addr → Pre} {cB cC : ClassId} {kB : Class} {ty : FieldType} {m : Int32} (hkB : s.vm.classes[cB]? = some kB) (hB : kB.kind = .array cC ty) (hm : ¬ m < 0)
    (hl2 : ¬ m.toNatClampNeg > e.platform.arrayLengthLimit) (hh2 : ¬ m.toNatClampNeg * componentBytes ty > e.platform.maxHeapBytes) (hc : s.heap.size < e.platform.maxCells) (hs : s.slotsUsed + m.toNatClampNeg ≤ e.platform.maxSlots) (hfit : fits ty (defaultValue ty) = true)
    (hq : ∀ acts', Q s.heap.size d acts' (s.pushCell { cls := cB, slots := Array.replicate m.toNatClampNeg (defaultValue ty), vm := .none })) : wp (Jvm.Op.multianewarray.make cB [m]) Q E e d acts s := by
  rw [Jvm.Op.multianewarray.make]
  simp only [wp_bind', Jvm.W.ite, hm, if_false, wp_pure', Jvm.W.theClass, hkB, hB, Option.some.injEq, exists_eq_left']
  exact uYn hkB hB hl2 hh2 hc hs hfit hq
theorem uYmake {s : State} {d : Bool} {acts : List Action} {Q : Addr → Pre} {cA cB cC : ClassId} {kA kB : Class} {ty : FieldType} {n m : Int32} (hkA : s.vm.classes[cA]? = some kA) (hA : kA.kind = .array cB (.array ty)) (hkB : s.vm.classes[cB]? = some kB) (hB : kB.kind = .array cC ty)
    (hn : ¬ n < 0) (hm : ¬ m < 0) (hl1 : ¬ n.toNatClampNeg > e.platform.arrayLengthLimit) (hh1 : ¬ n.toNatClampNeg * componentBytes (.array ty) > e.platform.maxHeapBytes) (hl2 : ¬ m.toNatClampNeg > e.platform.arrayLengthLimit) (hh2 : ¬ m.toNatClampNeg * componentBytes ty > e.platform.maxHeapBytes)
    (hc : s.heap.size + (1 + n.toNatClampNeg) ≤ e.platform.maxCells) (hs : s.slotsUsed + (n.toNatClampNeg + n.toNatClampNeg * m.toNatClampNeg) ≤ e.platform.maxSlots) (hfit : fits ty (defaultValue ty) = true)
    (hq : ∀ d' acts', Q s.heap.size d' acts' (uYf s cA cB n.toNatClampNeg m.toNatClampNeg (defaultValue ty) n.toNatClampNeg)) : wp (Jvm.Op.multianewarray.make cA [n, m]) Q E e d acts s := by
  have hfind : ([m].find? (· < 0)) = none := by simp [hm]
  rw [Jvm.Op.multianewarray.make]
  simp only [wp_bind', Jvm.W.ite, hn, if_false, wp_pure', Jvm.W.theClass, hkA, hA, Option.some.injEq, exists_eq_left']
  refine uYn hkA hA hl1 hh1 (by omega) (by omega) rfl (fun acts1 => ?_)
  simp only [hfind, ite_self, wp_bind', Std.Legacy.Range.forIn_eq_forIn_range', wp_pure']
  rw [uYo_new cA n.toNatClampNeg s.heap.size]
  refine wp_forIn_inv (fun r u => ∃ i : Nat, i ≤ n.toNatClampNeg ∧ r = List.range' i (n.toNatClampNeg - i) ∧ u = uYf s cA cB n.toNatClampNeg m.toNatClampNeg (defaultValue ty) i) _ _ ?_ ?_ ?_
  · refine ⟨0, Nat.zero_le _, ?_, rfl⟩
    simp [Std.Legacy.Range.size]
  · intro x r u d1 acts2 Q1 hI hk1
    obtain ⟨i, hi, hr, rfl⟩ := hI
    have hlt : i < n.toNatClampNeg := by
      rcases Nat.lt_or_ge i n.toNatClampNeg with h | h
      · exact h
      · rw [show n.toNatClampNeg - i = 0 by omega] at hr
        cases hr
    rw [show n.toNatClampNeg - i = (n.toNatClampNeg - (i + 1)) + 1 by omega, List.range'_succ] at hr
    obtain ⟨hx, hr2⟩ := List.cons.inj hr
    have hx2 : i = x := hx.symm
    subst hx2
    subst hr2
    obtain ⟨f1, f2, f3, f4, f5, f6⟩ := uYf_facts s cA cB n.toNatClampNeg m.toNatClampNeg (defaultValue ty) i
    have hroom : i * m.toNatClampNeg + m.toNatClampNeg ≤ n.toNatClampNeg * m.toNatClampNeg := by
      rw [← Nat.succ_mul]
      exact Nat.mul_le_mul_right _ hlt
    simp only [wp_bind']
    refine uYm1 (by rw [f2]; exact hkB) hB hm hl2 hh2 (by omega) (by omega) hfit (fun acts3 => ?_)
    simp only [Jvm.writeLoc, wp_write, wp_pure, wp_pure']
    refine ⟨uYo cA n.toNatClampNeg s.heap.size i, ?_, ?_, ?_, ?_, ?_⟩
    · show ((uYf s cA cB n.toNatClampNeg m.toNatClampNeg (defaultValue ty) i).heap.push _)[s.heap.size]? = _
      rw [Array.getElem?_push, if_neg (by omega)]
      exact f6
    · intro q
      cases q
    · rw [uYo_size]
      exact hlt
    · show (uYf s cA cB n.toNatClampNeg m.toNatClampNeg (defaultValue ty) i).fitsSlot cA .none i _ = true
      rw [f5]
      simp [State.fitsSlot, State.slotType?, hkA, hA]
      rfl
    · refine hk1 _ _ _ ⟨i + 1, hlt, rfl, ?_⟩
      show _ = ((uYf s cA cB n.toNatClampNeg m.toNatClampNeg (defaultValue ty) i).pushCell _).setCell s.heap.size _
      rw [f1, uYo_set]
  · intro u d1 acts2 hI
    obtain ⟨i, hi, hr, rfl⟩ := hI
    have he : i = n.toNatClampNeg := by
      rcases Nat.lt_or_ge i n.toNatClampNeg with h | h
      · rw [show n.toNatClampNeg - i = (n.toNatClampNeg - (i + 1)) + 1 by omega, List.range'_succ] at hr
        cases hr
      · omega
    subst he
    exact hq _ _
theorem uYsem {s : State} {f : JFrame} {d : Bool} {acts : List Action} {Q : Unit → Pre} {index : Nat} {cA cB cC : ClassId} {kA kB : Class} {ty : FieldType} {n m : Int32} {rest : List Value} (htop : s.topJava?.isSome) (hr : s.vm.classReady f.method.cls index cA) (hstack : f.stack = .int m :: .int n :: rest)
    (hkA : s.vm.classes[cA]? = some kA) (hA : kA.kind = .array cB (.array ty)) (hkB : s.vm.classes[cB]? = some kB) (hB : kB.kind = .array cC ty)
    (hn : ¬ n < 0) (hm : ¬ m < 0) (hl1 : ¬ n.toNatClampNeg > e.platform.arrayLengthLimit) (hh1 : ¬ n.toNatClampNeg * componentBytes (.array ty) > e.platform.maxHeapBytes) (hl2 : ¬ m.toNatClampNeg > e.platform.arrayLengthLimit) (hh2 : ¬ m.toNatClampNeg * componentBytes ty > e.platform.maxHeapBytes)
    (hc : s.heap.size + (1 + n.toNatClampNeg) ≤ e.platform.maxCells) (hs : s.slotsUsed + (n.toNatClampNeg + n.toNatClampNeg * m.toNatClampNeg) ≤ e.platform.maxSlots) (hfit : fits ty (defaultValue ty) = true)
    (hq : ∀ acts', Q () true acts' ((uYf s cA cB n.toNatClampNeg m.toNatClampNeg (defaultValue ty) n.toNatClampNeg).setTop { f with stack := .ref s.heap.size :: rest })) : wp (Jvm.Op.multianewarray.sem index 2) Q E e d acts (s.setTop f) := by
  have htf : (s.setTop f).topJava? = some f := State.topJava?_setTop' _ htop
  simp only [Jvm.Op.multianewarray.sem, wp_bind', Jvm.W.resolveClassAt_ready (State.method?_setTop f htop) hr, Jvm.W.popN]
  rw [if_neg (by decide)]
  refine ⟨f, htf, [.int n, .int m], rest, rfl, by rw [hstack]; rfl, ?_⟩
  simp only [List.mapM_cons, List.mapM_nil, wp_bind', wp_pure', State.setTop_setTop]
  refine uYmake (s := s.setTop { f with stack := rest }) hkA hA hkB hB hn hm hl1 hh1 hl2 hh2 hc hs hfit (fun d1 acts1 => ?_)
  simp only [uYf_top, Jvm.W.mark, wp_mark, wp_pure', Jvm.W.pushRef]
  refine ⟨{ f with stack := rest }, State.topJava?_setTop' _ (by rw [(uYf_facts s cA cB n.toNatClampNeg m.toNatClampNeg (defaultValue ty) n.toNatClampNeg).2.2.2.1]; exact htop), ?_⟩
  rw [State.setTop_setTop]
  exact hq _
end UYW
section UYS
variable {p : Program} {l : Launch} {e : Env} {R : Room} {s : State} {m : MethodId} {args : Array Value} {below : List Frame} {meth : Method} {c : Code} {T : State} {locs : List Loc} {cells slots : Nat}
theorem uYst (X : Stand p l e R s m args below meth c T locs cells slots) (cA cB : ClassId) (N K : Nat) (dv : Value) : ∀ i : Nat, Stand p l e R s m args below meth c (uYf T cA cB N K dv i) locs (cells + 1 + i) (slots + N + i * K)
  | 0 => by
    have h := X.pushed (uYo cA N T.heap.size 0)
    rw [uYo_size] at h
    rw [Nat.zero_mul]
    exact h
  | i + 1 => by
    have h := (uYst X cA cB N K dv i).pushed { cls := cB, slots := Array.replicate K dv, vm := .none }
    obtain ⟨f1, f2, f3, f4, f5, f6⟩ := uYf_facts T cA cB N K dv i
    have hc : ((uYf T cA cB N K dv i).pushCell { cls := cB, slots := Array.replicate K dv, vm := .none }).heap[T.heap.size]? = some (uYo cA N T.heap.size i) := by
      show ((uYf T cA cB N K dv i).heap.push _)[T.heap.size]? = _
      rw [Array.getElem?_push, if_neg (by omega)]
      exact f6
    have h2 := h.stored hc i (.ref (T.heap.size + 1 + i))
    rw [uYo_set] at h2
    have hle : s.heap.size ≤ T.heap.size := X.same.2.1
    have h3 := h2.same.drop_fresh (L := locs) (fun x hx => by
      rcases List.mem_singleton.mp hx with rfl
      exact hle)
    rw [show cells + 1 + (i + 1) = cells + 1 + i + 1 by omega, show slots + N + (i + 1) * K = slots + N + i * K + (Array.replicate K dv).size by rw [Array.size_replicate, Nat.succ_mul]; omega]
    exact ⟨h2.admits, h2.cas, h2.clock, h2.frames, h2.room, h2.hears, h2.method, h2.code, h2.here, h2.tail, h2.warmed, h2.limits, h2.bytes, h3⟩
/-- the word 'arrays of arrays have been made', read -/
theorem uYover {t : FieldType} {A : Array Value} {S : State} (h : (Cond.arrayOver (.array t)).before A S = true) : ∃ cB cA kA, S.vm.findClass (FieldType.array t).toString = some cB ∧ S.vm.findClass ("[" ++ (FieldType.array t).toString) = some cA ∧ S.vm.classes[cA]? = some kA ∧ kA.kind = .array cB (.array t) := by
  simp only [Cond.before, Cond.holds, Cond.value, beq_iff_eq] at h
  cases hf : S.vm.findClass (FieldType.array t).toString with
  | none => rw [hf] at h; simp at h
  | some cB =>
    rw [hf] at h
    simp only [Option.bind_some, Option.bind_eq_some_iff, Option.map_eq_some_iff] at h
    obtain ⟨cA, hi, kA, hk, hb⟩ := h
    obtain ⟨hlt, hp, -⟩ := Array.findIdx?_eq_some_iff_getElem.mp hi
    rw [(Array.getElem?_eq_some_iff.mp hk).2] at hp
    cases hkind : kA.kind with
    | array comp ty =>
      rw [hkind] at hb hp
      simp at hb hp
      exact ⟨cB, cA, kA, rfl, hb.2, hk, by rw [hkind, hp, hb.1]⟩
    | _ => rw [hkind] at hb; simp at hb
theorem uYrow (X : Stand p l e R s m args below meth c T locs cells slots) (hexec : p.tables.exec = Jvm.exec) {own : String} {index : Nat} {ty : FieldType} (hown : s.vm.findClass own = some m.cls) (hclink : (Cond.classLink own index ("[" ++ (FieldType.array ty).toString)).before args s = true)
    (hover : (Cond.arrayOver (.array ty)).before args s = true) (harr : (Cond.arrayClass ty).before args s = true) {g : JFrame} (hg : g.method = m) (hdg : decode c.code g.pc = .ok (.multianewarray index 2, 4)) {n k : Int32} {rest : List Value} (hstack : g.stack = .int k :: .int n :: rest) (hn : ¬ n < 0) (hk : ¬ k < 0)
    (hb1 : n.toNatClampNeg * 4 ≤ 536870912) (hb2 : k.toNatClampNeg * componentBytes ty ≤ 536870912) (hb3 : k.toNatClampNeg ≤ 536870912) (hfit : fits ty (defaultValue ty) = true) (hcells : cells + (1 + n.toNatClampNeg) ≤ R.cells) (hslots : slots + (n.toNatClampNeg + n.toNatClampNeg * k.toNatClampNeg) ≤ R.slots) :
    ∃ (vm₁ : Vm) (cA cB : ClassId) (kA : Class), s.vm.findClass ("[" ++ (FieldType.array ty).toString) = some cA ∧ s.vm.findClass (FieldType.array ty).toString = some cB ∧ s.vm.classes[cA]? = some kA ∧ kA.kind = .array cB (.array ty) ∧
      Stand p l e R s m args below meth c (uYf (T.setVm vm₁) cA cB n.toNatClampNeg k.toNatClampNeg (defaultValue ty) n.toNatClampNeg) locs (cells + 1 + n.toNatClampNeg) (slots + n.toNatClampNeg + n.toNatClampNeg * k.toNatClampNeg) ∧
      ∀ target, Steps p.tables e below ((uYf (T.setVm vm₁) cA cB n.toNatClampNeg k.toNatClampNeg (defaultValue ty) n.toNatClampNeg).setTop { g with pc := g.pc + 4, stack := .ref T.heap.size :: rest }) target → Steps p.tables e below (T.setTop g) target := by
  subst hg
  have hpl : e.platform.magicAccessors = ({} : Platform).magicAccessors := by rw [X.admits.platform]
  obtain ⟨cB, cA, kA, hfB, hfA, hkA, hA⟩ := uYover hover
  obtain ⟨cB2, kB, cC, hfB2, hkB, hB⟩ := Cond.arrayClass_spec harr
  cases hfB.symm.trans hfB2
  obtain ⟨cA2, hfA2, hcl⟩ := Cond.classLink_spec hown hclink e.platform hpl
  cases hfA.symm.trans hfA2
  obtain ⟨hg1, hwarm1, hready1⟩ := State.classEntry (e := e) X.warmed hcl
  generalize T.vm.noted g.method.cls index (.cls cA) = vm₁ at hg1 hwarm1 hready1
  obtain ⟨kA1, hkA1, heA⟩ := hwarm1.alike.2.2 _ _ hkA
  have hA1 : kA1.kind = .array cB (.array ty) := by rw [heA]; exact hA
  obtain ⟨kB1, hkB1, heB⟩ := hwarm1.alike.2.2 _ _ hkB
  have hB1 : kB1.kind = .array cC ty := by rw [heB]; exact hB
  obtain ⟨hr1, hr2⟩ := X.roomAbove hcells hslots
  refine ⟨vm₁, cA, cB, kA, hfA, hfB, hkA, hA, uYst (X.noted hwarm1) cA cB _ _ _ _, fun target hgo => ?_⟩
  refine Steps.instr (c := c) X.here ?_
  rw [hdg]
  show wpRun (p.tables.exec (.multianewarray index 2)) _ _ e (T.setTop g)
  rw [hexec]
  show wp (Jvm.Op.multianewarray.sem index 2) _ _ e false [] (T.setTop g)
  have hcold : ∀ {Q : Unit → Pre} {E : CtlPost} {d : Bool} {acts : List Action}, wp (Jvm.Op.multianewarray.sem index 2) Q E e d acts (T.setTop g) ↔ wp (Jvm.Op.multianewarray.sem index 2) Q E e d acts ((T.setVm vm₁).setTop g) := by
    intro Q E d acts
    simp only [Jvm.Op.multianewarray.sem, wp_bind']
    exact Jvm.W.resolveClassAt_transfer (s := T.setTop g) (State.method?_setTop g X.here.top) hg1 hready1
  rw [hcold]
  refine uYsem (s := T.setVm vm₁) X.here.top hready1 hstack hkA1 hA1 hkB1 hB1 hn hk ?_ ?_ ?_ ?_ hr1 hr2 hfit (fun acts1 acts2 => ?_)
  · rw [Launch.admits_arrayLengthLimit X.admits]; omega
  · rw [Launch.admits_maxHeapBytes X.admits]; show ¬ n.toNatClampNeg * 4 > 536870912; omega
  · rw [Launch.admits_arrayLengthLimit X.admits]; omega
  · rw [Launch.admits_maxHeapBytes X.admits]; omega
  · rw [afterInstr_ok]
    exact hgo
end UYS
theorem vr_up_in {α : Type} {f : Nat → α} {l : List Nat} {v : α} {a : Nat} (h : a ∈ l) : vr_up f l v a = v := if_pos h
theorem vr_up_ne {α : Type} {f : Nat → α} {l : List Nat} {v : α} {a : Nat} (h : a ∉ l) : vr_up f l v a = f a := if_neg h
theorem vr_rows {L l : List Nat} {f : Nat → va_E} {e : va_E} (h : ∀ a, a ∈ l → a ∉ L) : va_pl L f ++ l.map (fun a => (a, e)) = va_pl (L ++ l) (vr_up f l e) := by
  unfold va_pl
  rw [List.map_append]
  congr 1
  · apply List.map_congr_left
    intro a ha
    rw [vr_up_ne (fun q => h a q ha)]
  · apply List.map_congr_left
    intro a ha
    rw [vr_up_in ha]
theorem vr_lay {X rows : va_W} {x : Nat × va_E} {pl : va_W} {D : va_G} {cl : List vw_C} {H : Heap} (hP : va_P D cl (((X ++ pl) ++ [x]) ++ rows) H) : va_P D cl ((X ++ [x]) ++ (pl ++ rows)) H := by
  rw [List.append_assoc (X ++ pl)] at hP
  have h := va_P.swap hP
  rw [← List.append_assoc X] at h
  have h2 := va_P.swap h
  rw [List.append_assoc (X ++ [x])] at h2
  exact h2
theorem vr_layD {X rows : va_W} {x : Nat × va_E} {pl : va_W} {A : Nat → Prop} (hD : va_D A (((X ++ pl) ++ [x]) ++ rows)) : va_D A ((X ++ [x]) ++ (pl ++ rows)) := by
  rw [List.append_assoc (X ++ pl)] at hD
  have h := va_D.swap hD
  rw [← List.append_assoc X] at h
  have h2 := va_D.swap h
  rw [List.append_assoc (X ++ [x])] at h2
  exact h2
section VGM
variable {p : Program} {l : Launch} {e : Env} {R : Room} {s : State} {m : MethodId} {args : Array Value} {below : List Frame} {meth : Method} {c : Code} {H : Heap} {locs : List Loc} {cells slots : Nat} {Q : State → Prop}
variable {cc : ByteArray} {pc : Nat} {ls : Array Slot} {rest : List Value} {D : va_G} {cl : List vw_C} {A : Nat → Prop} {a : Nat} {tys : List (ClassId × FieldType)} {ws : va_W} {H0 : Heap}
theorem va_mna {X : va_W} {L : List Nat} {f : Nat → va_E} {cc : ByteArray} (hexec : p.tables.exec = Jvm.exec) (hb : c.code = cc) {own : String} {index : Nat} {ty : FieldType} {cy : ClassId} (hown : s.vm.findClass own = some m.cls) (hclink : (Cond.classLink own index ("[" ++ (FieldType.array ty).toString)).before args s = true) (hover : va_AOA ty s) (harr : (Cond.arrayClass ty).before args s = true) (hcy : s.vm.findClass (FieldType.array ty).toString = some cy)
    (hK : va_K D cl tys s) (hP : va_P D cl (X ++ va_pl L f) H) (hD : va_D A (X ++ va_pl L f)) (hS : va_S A H0 H locs) (hA : ∀ q, H0.size ≤ q → A q) {n k : Int32} {N' K' : Nat} {z : vp_A} (hn : ¬ n < 0) (hk : ¬ k < 0) (hN : n.toNatClampNeg = N') (hM : k.toNatClampNeg = K')
    (hb1 : N' * 4 ≤ 536870912) (hb2 : K' * componentBytes ty ≤ 536870912) (hb3 : K' ≤ 536870912) (hdf : fits ty (defaultValue ty) = true) (hdd : (defaultValue ty).isDefault = true) (hcells : cells + (1 + N') ≤ R.cells) (hslots : slots + (N' + N' * K') ≤ R.slots) (hz : ∀ c : ClassId, ({ cls := c, slots := Array.replicate K' (defaultValue ty), vm := .none } : Cell) = vp_cell c z) (hdg : decode cc pc = .ok (.multianewarray index 2, 4))
    (kk : ∀ (q : Nat) (r : Nat → Nat) (cA : ClassId) (H1 : Heap), (∀ i j : Nat, i < N' → j < N' → r i = r j → i = j) → (∀ i : Nat, i < N' → r i ∉ L) → va_K D cl (tys ++ [(cA, .array ty)]) s →
      va_P D cl ((X ++ [(q, .inl (cA, N', .inr (.inr (.inr (.inr (fun i => if i < N' then some (r i) else none))))))]) ++ va_pl (L ++ (List.range N').map r) (vr_up f ((List.range N').map r) (.inl (cy, z)))) H1 → va_D A ((X ++ [(q, .inl (cA, N', .inr (.inr (.inr (.inr (fun i => if i < N' then some (r i) else none))))))]) ++ va_pl (L ++ (List.range N').map r) (vr_up f ((List.range N').map r) (.inl (cy, z)))) → va_S A H0 H1 locs →
      W p l e R s m args below meth c H1 locs (cells + 1 + N') (slots + N' + N' * K') Q (F0 m (pc + 4) ls (.ref q :: rest))) : W p l e R s m args below meth c H locs cells slots Q (F0 m pc ls (.int k :: .int n :: rest)) := by
  subst hN
  subst hM
  intro T hT Xs
  obtain ⟨vm₁, cA, comp, kA, fA, fC, hkA, hkindA, X', step⟩ := uYrow Xs hexec hown hclink (va_AOA.use hover) harr (g := F0 m pc ls (.int k :: .int n :: rest)) rfl (by rw [hb]; exact hdg) rfl hn hk hb1 hb2 hb3 hdf hcells hslots
  have ec : some cy = some comp := hcy.symm.trans fC
  cases ec
  generalize hF : uYf (T.setVm vm₁) cA cy n.toNatClampNeg k.toNatClampNeg (defaultValue ty) n.toNatClampNeg = F at X' step
  have hTh : (T.setVm vm₁).heap = H := hT
  obtain ⟨f1, -, -, -, -, f2⟩ := uYf_facts (T.setVm vm₁) cA cy n.toNatClampNeg k.toNatClampNeg (defaultValue ty) n.toNatClampNeg
  rw [hF, hTh] at f1 f2
  have hold : ∀ x : Nat, x < H.size → F.heap[x]? = H[x]? := fun x hx => by
    have := uYf_old (T.setVm vm₁) cA cy n.toNatClampNeg k.toNatClampNeg (defaultValue ty) (x := x) (by rw [hTh]; exact hx) n.toNatClampNeg
    rw [hF, hTh] at this
    exact this
  have hrow : ∀ j : Nat, j < n.toNatClampNeg → F.heap[H.size + 1 + j]? = some (vp_cell cy z) := fun j hj => by
    have := uYf_row (T.setVm vm₁) cA cy n.toNatClampNeg k.toNatClampNeg (defaultValue ty) n.toNatClampNeg j hj
    rw [hF, hTh, hz] at this
    exact this
  have hout : uYo cA n.toNatClampNeg H.size n.toNatClampNeg = vp_cell cA (n.toNatClampNeg, .inr (.inr (.inr (.inr (fun i => if i < n.toNatClampNeg then some (H.size + 1 + i) else none))))) := by
    rw [vp_cell_q]
    unfold uYo
    refine congrArg (arrV cA n.toNatClampNeg) (funext fun j => ?_)
    by_cases h : j < n.toNatClampNeg
    · simp [va_rf, h]
    · simp [va_rf, h]
  rw [hout] at f2
  have hlt : ∀ a, a ∈ L → a < H.size := fun a ha => by
    obtain ⟨k9, hk9⟩ := va_pl_get (X := X) (f := f) ha
    exact (hP k9 _ hk9).lt
  have hnl : ∀ i : Nat, i < n.toNatClampNeg → H.size + 1 + i ∉ L := fun i _ h => by
    have := hlt _ h
    omega
  have hnm : ∀ a, a ∈ (List.range n.toNatClampNeg).map (fun i => H.size + 1 + i) → a ∉ L := fun a ha h => by
    obtain ⟨i, -, rfl⟩ := List.mem_map.mp ha
    have := hlt _ h
    omega
  have hP0 : va_P D cl (X ++ va_pl L f) F.heap := hP.kept (fun k9 x hx => hold x.1 ((hP k9 x hx).lt))
  have hP1 : va_P D cl ((X ++ va_pl L f) ++ [(H.size, .inl (cA, n.toNatClampNeg, .inr (.inr (.inr (.inr (fun i => if i < n.toNatClampNeg then some (H.size + 1 + i) else none))))))]) F.heap := hP0.app (fun k9 x hx => by
    have h0 : k9 < 1 := (List.getElem?_eq_some_iff.mp hx).1
    rw [show k9 = 0 by omega] at hx
    cases hx
    exact f2)
  have hP2 : va_P D cl (((X ++ va_pl L f) ++ [(H.size, .inl (cA, n.toNatClampNeg, .inr (.inr (.inr (.inr (fun i => if i < n.toNatClampNeg then some (H.size + 1 + i) else none))))))]) ++ ((List.range n.toNatClampNeg).map (fun i => H.size + 1 + i)).map (fun a => (a, .inl (cy, z)))) F.heap := hP1.app (fun k9 x hx => by
    obtain ⟨a, ha, rfl⟩ := List.mem_map.mp (List.mem_of_getElem? hx)
    obtain ⟨i, hi, rfl⟩ := List.mem_map.mp ha
    exact hrow i (List.mem_range.mp hi))
  have hD2 : va_D A (((X ++ va_pl L f) ++ [(H.size, .inl (cA, n.toNatClampNeg, .inr (.inr (.inr (.inr (fun i => if i < n.toNatClampNeg then some (H.size + 1 + i) else none))))))]) ++ ((List.range n.toNatClampNeg).map (fun i => H.size + 1 + i)).map (fun a => (a, .inl (cy, z)))) := by
    have hD1 := hD.push (e := .inl (cA, n.toNatClampNeg, .inr (.inr (.inr (.inr (fun i => if i < n.toNatClampNeg then some (H.size + 1 + i) else none)))))) hP rfl (hA _ hS.1)
    generalize hW1 : (X ++ va_pl L f) ++ [(H.size, .inl (cA, n.toNatClampNeg, .inr (.inr (.inr (.inr (fun i => if i < n.toNatClampNeg then some (H.size + 1 + i) else none))))))] = W1 at hD1 hP1 ⊢
    have hle : ∀ (k9 : Nat) (x : Nat × va_E), W1[k9]? = some x → x.1 ≤ H.size := fun k9 x hx => by
      rw [← hW1] at hx
      by_cases hl : k9 < (X ++ va_pl L f).length
      · rw [List.getElem?_append_left hl] at hx
        exact Nat.le_of_lt ((hP k9 x hx).lt)
      · rw [List.getElem?_append_right (by omega)] at hx
        have h0 : k9 - (X ++ va_pl L f).length < 1 := (List.getElem?_eq_some_iff.mp hx).1
        rw [show k9 - (X ++ va_pl L f).length = 0 by omega] at hx
        cases hx
        exact Nat.le_refl _
    have hr : ∀ (k9 : Nat) (x : Nat × va_E), (((List.range n.toNatClampNeg).map (fun i => H.size + 1 + i)).map (fun a => ((a, .inl (cy, z)) : Nat × va_E)))[k9]? = some x → x.1 = H.size + 1 + k9 := fun k9 x hx => by
      rw [List.getElem?_map, List.getElem?_map] at hx
      by_cases h9 : k9 < n.toNatClampNeg
      · rw [List.getElem?_range h9] at hx
        cases hx
        rfl
      · have hn0 : (List.range n.toNatClampNeg)[k9]? = none := List.getElem?_eq_none (by rw [List.length_range]; omega)
        rw [hn0] at hx
        cases hx
    refine ⟨fun i j x y hi hj hxy => ?_, fun k9 x hx => ?_⟩
    · by_cases h1 : i < W1.length <;> by_cases h2 : j < W1.length
      · rw [List.getElem?_append_left h1] at hi
        rw [List.getElem?_append_left h2] at hj
        exact hD1.1 i j x y hi hj hxy
      · rw [List.getElem?_append_left h1] at hi
        rw [List.getElem?_append_right (by omega)] at hj
        have := hle _ _ hi
        have := hr _ _ hj
        omega
      · rw [List.getElem?_append_right (by omega)] at hi
        rw [List.getElem?_append_left h2] at hj
        have := hle _ _ hj
        have := hr _ _ hi
        omega
      · rw [List.getElem?_append_right (by omega)] at hi hj
        have := hr _ _ hi
        have := hr _ _ hj
        omega
    · by_cases h1 : k9 < W1.length
      · rw [List.getElem?_append_left h1] at hx
        exact hD1.2 k9 x hx
      · rw [List.getElem?_append_right (by omega)] at hx
        have := hr _ _ hx
        exact hA _ (by have := hS.1; omega)
  have hAr : ArrOfT s cA (.array ty) := fun N9 z9 => ⟨(fun q hq => by cases hq), kA, hkA, cy, hkindA⟩
  have hK2 : va_K D cl (tys ++ [(cA, .array ty)]) s := ⟨hK.1, fun k9 x hx => by
    by_cases hl : k9 < tys.length
    · rw [List.getElem?_append_left hl] at hx
      exact hK.2 k9 x hx
    · rw [List.getElem?_append_right (by omega)] at hx
      have h0 : k9 - tys.length < 1 := (List.getElem?_eq_some_iff.mp hx).1
      rw [show k9 - tys.length = 0 by omega] at hx
      cases hx
      exact ⟨hAr, fA⟩⟩
  obtain ⟨t, a1, b1⟩ := kk H.size (fun i => H.size + 1 + i) cA F.heap (fun i j _ _ h => by have h9 : H.size + 1 + i = H.size + 1 + j := h; omega) hnl hK2 (by rw [← vr_rows hnm]; exact vr_lay hP2) (by rw [← vr_rows hnm]; exact vr_layD hD2) ⟨by rw [f1]; have := hS.1; omega, fun x h1 h2 => (hold x (Nat.lt_of_lt_of_le h1 hS.1)).trans (hS.2.1 x h1 h2), hS.2.2⟩ F rfl X'
  refine ⟨t, step t ?_, b1⟩
  have e : T.heap.size = H.size := by rw [hT]
  rw [e]
  exact a1
end VGM
theorem uRows {f : Nat → va_E} {e : va_E} (l : List Nat) : va_pl ([] ++ l) (vr_up f l e) = l.map (fun a => (a, e)) := by
  rw [List.nil_append]
  unfold va_pl
  apply List.map_congr_left
  intro a ha
  rw [vr_up_in ha]
section UMNA
variable {p : Program} {l : Launch} {e : Env} {R : Room} {s : State} {m : MethodId} {args : Array Value} {below : List Frame} {meth : Method} {c : Code} {H : Heap} {locs : List Loc} {cells slots : Nat} {Q : State → Prop}
variable {cc : ByteArray} {pc : Nat} {ls : Array Slot} {rest : List Value} {A : Nat → Prop} {D : va_G} {K : Nat → ClassId} {own nm : String} {nL : Nat} {ret : Option FieldType} {ws : va_W}
theorem uMna {index : Nat} {n k : Int32} {N' K' : Nat} (B : uB p s m args meth c D K own nm cc nL ret A) (hcl : Cond.classLink own index "[[I" ∈ uTb) (hP : va_P D vwCl ws H) (hD : va_D A ws) (hS : va_S A s.heap H locs) (hn : ¬ n < 0) (hk : ¬ k < 0) (hNn : n.toNatClampNeg = N') (hM : k.toNatClampNeg = K') (hb1 : N' * 4 ≤ 536870912) (hb2 : K' * 4 ≤ 536870912) (hb3 : K' ≤ 536870912) (hcells : cells + (1 + N') ≤ R.cells) (hslots : slots + (N' + N' * K') ≤ R.slots) (hdg : decode cc pc = .ok (.multianewarray index 2, 4))
    (kk : ∀ (q : Nat) (r : Nat → Nat) (H1 : Heap), va_P D vwCl (ws ++ ((q, .inl (K 3, N', .inr (.inr (.inr (.inr (fun i => if i < N' then some (r i) else none)))))) :: (List.range N').map (fun i => (r i, .inl (K 0, K', .inl (fun _ => 0)))))) H1 → va_D A (ws ++ ((q, .inl (K 3, N', .inr (.inr (.inr (.inr (fun i => if i < N' then some (r i) else none)))))) :: (List.range N').map (fun i => (r i, .inl (K 0, K', .inl (fun _ => 0)))))) → va_S A s.heap H1 locs →
      W p l e R s m args below meth c H1 locs (cells + 1 + N') (slots + N' + N' * K') Q (F0 m (pc + 4) ls (.ref q :: rest))) : W p l e R s m args below meth c H locs cells slots Q (F0 m pc ls (.int k :: .int n :: rest)) := by
  obtain ⟨hx, hb, hr, hml, hown, hts, hlocks, hnm, hK, hA, hN, hZ⟩ := B
  have hP0 : va_P D vwCl (ws ++ va_pl [] (fun _ => .inr (0, []))) H := by rw [show va_pl [] (fun _ => (.inr (0, []) : va_E)) = [] from rfl, List.append_nil]; exact hP
  have hD0 : va_D A (ws ++ va_pl [] (fun _ => .inr (0, []))) := by rw [show va_pl [] (fun _ => (.inr (0, []) : va_E)) = [] from rfl, List.append_nil]; exact hD
  have h0 : s.vm.findClass (FieldType.array .int).toString = some (K 0) := (hK.2 0 (K 0, .int) rfl).2
  refine va_mna (ty := .int) (z := (K', .inl (fun _ => 0))) hx hb hown (hts _ hcl) hN.2.2.2.2.2 (hts _ mac_int) h0 hK hP0 hD0 hS hA hn hk hNn hM hb1 hb2 hb3 rfl rfl hcells hslots (fun c => arrV_new ..) hdg (fun q r cA H1 _ _ hK2 hP2 hD2 hS2 => ?_)
  have h1 := (hK.2 3 (K 3, .array .int) rfl).2
  have h2 := (hK2.2 (uT K).length (cA, .array .int) (by rw [List.getElem?_append_right (Nat.le_refl _), Nat.sub_self]; rfl)).2
  have ec : cA = K 3 := Option.some.inj (h2.symm.trans h1)
  subst ec
  rw [uRows, List.map_map, List.append_assoc] at hP2 hD2
  exact kk q r H1 hP2 hD2 hS2
end UMNA

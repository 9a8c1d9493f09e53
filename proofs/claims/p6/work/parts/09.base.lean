/-! own rows: the words of all methods are the law's list; worlds, contracts, calls in one form -/
abbrev uw (y : MethodName) (cc : ByteArray) (n : Nat) (r : Option FieldType) : List Cond := Cond.code y cc n r :: uTb
abbrev uT (K : Nat → ClassId) : List (ClassId × FieldType) := [(K 0, .int), (K 1, .boolean), (K 2, .long), (K 3, .array .int)]
def va_AOA (ty : FieldType) (U : State) : Prop := (Cond.arrayOver (.array ty)).before #[] U = true
theorem va_AOA.use {ty : FieldType} {A : Array Value} {U : State} (h : va_AOA ty U) : (Cond.arrayOver (.array ty)).before A U = true := h
theorem va_AOA.same {ty : FieldType} {u U : State} (hv : u.vm = U.vm) (h : va_AOA ty u) : va_AOA ty U := by
  unfold va_AOA Cond.before Cond.holds at h ⊢
  simp only [Cond.value] at h ⊢
  rw [← hv]
  exact h
theorem va_AOA.moved {ty : FieldType} {u U : State} (hvm : u.vm.Alike U.vm) (h : va_AOA ty u) : va_AOA ty U := by
  unfold va_AOA Cond.before Cond.holds at h ⊢
  simp only [Cond.value, beq_iff_eq] at h ⊢
  rw [hvm.findClass, hvm.findClass]
  cases hc : u.vm.findClass (FieldType.array ty).toString with
  | none => rw [hc] at h; simp at h
  | some comp =>
    rw [hc] at h
    simp only [Option.bind_some, Option.bind_eq_some_iff, Option.map_eq_some_iff] at h ⊢
    obtain ⟨c, hi, k, hk, hb⟩ := h
    obtain ⟨k', hk', he⟩ := hvm.2.2 _ _ hk
    have e1 := va_idx_bare U.vm comp
    have e2 := va_idx_bare u.vm comp
    have e3 : U.vm.bare = u.vm.bare := by first | exact hvm.bare_eq | exact hvm.bare_eq.symm
    rw [e3] at e1
    refine ⟨c, (e1.symm.trans e2).trans hi, k', hk', ?_⟩
    · rw [show k'.kind = k.kind by rw [he]]
      exact hb
def uTx : String := "word like minutes look order twice do pass send to wait stop any "
def uByt : List Int32 := [119, 111, 114, 100, 32, 108, 105, 107, 101, 32, 109, 105, 110, 117, 116, 101, 115, 32, 108, 111, 111, 107, 32, 111, 114, 100, 101, 114, 32, 116, 119, 105, 99, 101, 32, 100, 111, 32, 112, 97, 115, 115, 32, 115, 101, 110, 100, 32, 116, 111, 32, 119, 97, 105, 116, 32, 115, 116, 111, 112, 32, 97, 110, 121, 32]
/-- the text constant (one object for both classes), the statics that its methods read -/
def uZ (K : Nat → ClassId) (A : Nat → Prop) (U : State) (H : Heap) : Prop := vk_S 1 [65] [uByt] (fun _ => K 10) (fun _ => K 11) A U H ∧ vk_R RX10 45 uTx (K 10) U ∧ vk_R RX12 417 uTx (K 10) U ∧ va_Z "java/lang/String" "COMPACT_STRINGS" "Z" (.int 1) A U H ∧ va_Zq "jdk/internal/util/Preconditions" "SIOOBE_FORMATTER" "Ljava/util/function/BiFunction;" A U H
theorem uZ.to {K : Nat → ClassId} {A B : Nat → Prop} {s U : State} {H H1 : Heap} (hW : s.WarmedH U.vm) (hAB : ∀ q, B q → A q) (hq : ∀ a : Nat, a < H.size → ¬ A a → H1[a]? = H[a]?) (h : uZ K A s H) : uZ K B U H1 :=
  ⟨((h.1.kept hq).narrow hAB).moved hW.alike, h.2.1.warm hW, h.2.2.1.warm hW, ((h.2.2.2.1.kept hq).narrow hAB).moved hW.alike, ((h.2.2.2.2.kept hq).narrow hAB).moved hW.alike⟩
theorem uZ.same {K : Nat → ClassId} {A : Nat → Prop} {u U : State} {H : Heap} (hv : U.vm = u.vm) (h : uZ K A u H) : uZ K A U H :=
  ⟨h.1.moved (by rw [hv]; exact Vm.Alike.refl _), h.2.1.same hv, h.2.2.1.same hv, h.2.2.2.1.moved (by rw [hv]; exact Vm.Alike.refl _), h.2.2.2.2.moved (by rw [hv]; exact Vm.Alike.refl _)⟩
def uNs (U : State) : Prop := va_Nw (.methodLinkNest RX11 36 yX3_init RX11) U ∧ va_Nw (.methodLinkNest RX11 52 yX6_init RX11) U ∧ va_Nw (.methodLinkNest RX5 45 yX7_init RX11) U ∧ va_Nw (.methodLinkNest RX11 75 yX7_init RX11) U ∧ va_Nw (.methodLinkNest RX9 54 yX11_isSeason RX11) U ∧ va_AOA .int U
theorem uNs.warm {s U : State} (hW : s.WarmedH U.vm) (h : uNs s) : uNs U := ⟨h.1.warmM hW, h.2.1.warmM hW, h.2.2.1.warmM hW, h.2.2.2.1.warmM hW, h.2.2.2.2.1.warmM hW, h.2.2.2.2.2.moved hW.alike⟩
theorem uNs.same {u U : State} (hv : u.vm = U.vm) (h : uNs u) : uNs U := ⟨h.1.same rfl hv, h.2.1.same rfl hv, h.2.2.1.same rfl hv, h.2.2.2.1.same rfl hv, h.2.2.2.2.1.same rfl hv, h.2.2.2.2.2.same hv⟩
def uP (D : va_G) (K : Nat → ClassId) (ws : va_W) (sz : Nat) (U : State) : Prop := U.heap.size = sz ∧ va_P D vwCl ws U.heap ∧ va_K D vwCl (uT K) U ∧ va_D (fun _ => True) ws ∧ uNs U ∧ uZ K (va_A ws sz) U U.heap
def uQ (D : va_G) (A : Nat → Prop) (w : va_W) (t : State) : Prop := va_P D vwCl w t.heap ∧ va_D A w
/-- all that a body knows of its start -/
def uB (p : Program) (s : State) (m : MethodId) (args : Array Value) (meth : Method) (c : Code) (D : va_G) (K : Nat → ClassId) (own : String) (nm : String) (cc : ByteArray) (nL : Nat) (ret : Option FieldType) (A : Nat → Prop) : Prop :=
  p.tables.exec = Jvm.exec ∧ c.code = cc ∧ meth.sig.returnType = ret ∧ c.maxLocals = nL ∧ s.vm.findClass own = some m.cls ∧ (∀ w ∈ uTb, w.before args s = true) ∧ meth.locks = false ∧ meth.name = nm ∧ va_K D vwCl (uT K) s ∧ (∀ q : Nat, s.heap.size ≤ q → A q) ∧ uNs s ∧ uZ K A s s.heap
theorem uGoodL : GoodIn uTb uTb := fun w h => ⟨h, good_of_word (uTb_good w h)⟩
theorem uGoodC {y : MethodName} {cc : ByteArray} {n : Nat} {r : Option FieldType} (h : Cond.code y cc n r ∈ uTb) : GoodIn uTb (uw y cc n r) := fun w hw => (List.mem_cons.mp hw).elim (fun e => by subst e; exact uGoodL _ h) (fun h2 => uGoodL _ h2)
theorem uBlind {av : List Value} {D : va_G} {K : Nat → ClassId} {ws : va_W} {sz : Nat} : FrameBlind (va_Pc av (uP D K ws sz)) := fun a U g mk q => by
  obtain ⟨q0, q1, qP, qK, qD, qN, qZ⟩ := q
  exact ⟨q0, q1, qP, va_K.moved (u := U) (U := U.calling g mk a) (Vm.Alike.refl U.vm) qK, qD, uNs.same (u := U) (U := U.calling g mk a) rfl qN, uZ.same (u := U) (U := U.calling g mk a) rfl qZ⟩
theorem uNd : ∀ {a b : List Nat}, va_nd (a ++ b) = true → va_nd a = true ∧ va_nd b = true ∧ ∀ i ∈ b, i ∉ a
  | [], b, h => ⟨rfl, h, fun _ _ h2 => absurd h2 List.not_mem_nil⟩
  | x :: a, b, h => by
    simp only [List.cons_append, va_nd, Bool.and_eq_true, decide_eq_true_eq, List.mem_append, not_or] at h
    obtain ⟨⟨h1, h2⟩, h3⟩ := h
    obtain ⟨k1, k2, k3⟩ := uNd h3
    refine ⟨by simp only [va_nd, Bool.and_eq_true, decide_eq_true_eq]; exact ⟨h1, k1⟩, k2, fun i hi hm => ?_⟩
    rcases List.mem_cons.mp hm with e | e
    · exact h2 (e ▸ hi)
    · exact k3 i hi e
theorem uSub {D : va_G} {cl : List vw_C} {ws wc : va_W} {H : Heap} (h : va_P D cl ws H) (is : List Nat) (hs : is.map (fun i => ws[i]?) = wc.map some) : va_P D cl wc H := by
  intro k q hk
  have h1 : (is.map (fun i => ws[i]?))[k]? = some (some q) := by rw [hs, List.getElem?_map, hk]; rfl
  rw [List.getElem?_map] at h1
  cases hi : is[k]? with
  | none => rw [hi] at h1; cases h1
  | some i => rw [hi] at h1; exact h i q (Option.some.inj h1)
theorem fa_lt (a b : Int32) : a < b ↔ a.toInt < b.toInt := Int32.lt_iff_toInt_lt
theorem fa_le (a b : Int32) : a ≤ b ↔ a.toInt ≤ b.toInt := Int32.le_iff_toInt_le
theorem fa_eq (a b : Int32) : a = b ↔ a.toInt = b.toInt := Int32.toInt_inj.symm
theorem uNat {x : Int32} {n : Nat} (h0 : 0 ≤ x.toInt) (h1 : x.toInt < n) (hn : n < 2 ^ 31) : ∃ a : Nat, a < n ∧ x = nI a := by
  have h : vp_in x n := vp_in_iff.mpr ⟨h0, h1⟩
  exact vp_in_of h hn
theorem uBn {v : Int32} (h : v = 0 ∨ v = 1) : vp_nar .boolean v = v := by rcases h with rfl | rfl <;> rfl
theorem uBz {v : Int32} (h : v = 0 ∨ v = 1) : narrow .boolean (.int v) = .int v := by rcases h with rfl | rfl <;> rfl
theorem uBup {f : Nat → Int32} {k : Nat} {v : Int32} (h : ∀ k, f k = 0 ∨ f k = 1) (hv : v = 0 ∨ v = 1) : ∀ j, upd f k v j = 0 ∨ upd f k v j = 1 := by
  intro j
  by_cases e : j = k
  · subst e; rw [pk_us]; exact hv
  · rw [pk_un e]; exact h j
theorem uIn {x : Int32} {n : Nat} (h0 : 0 ≤ x.toInt) (h1 : x.toInt < n) : ¬ (x < 0 ∨ n ≤ x.toNatClampNeg) := vp_in_iff.mpr ⟨h0, h1⟩
theorem uBior {x y : Int32} (h : x = 0 ∨ x = 1) (k : y = 0 ∨ y = 1) : x ||| y = 0 ∨ x ||| y = 1 := by rcases h with rfl | rfl <;> rcases k with rfl | rfl <;> decide
theorem uBiand {x y : Int32} (h : x = 0 ∨ x = 1) (k : y = 0 ∨ y = 1) : x &&& y = 0 ∨ x &&& y = 1 := by rcases h with rfl | rfl <;> rcases k with rfl | rfl <;> decide
theorem uEqz {x y : Int32} (h : x.toInt = y.toInt) : x = y := Int32.toInt_inj.mp h
section UKIT
variable {p : Program} {l : Launch} {e : Env} {R : Room} {s : State} {m : MethodId} {args : Array Value} {below : List Frame} {meth : Method} {c : Code} {H : Heap} {locs : List Loc} {cells slots : Nat} {Q : State → Prop}
variable {cc : ByteArray} {pc : Nat} {ls : Array Slot} {rest : List Value} {A : Nat → Prop} {a : Nat} {H0 : Heap} {D : va_G} {K : Nat → ClassId} {own nm : String} {nL : Nat} {ret : Option FieldType} {ws : va_W}
theorem lv_fixi {x y : Int32} (h : x = y) (k : W p l e R s m args below meth c H locs cells slots Q (F0 m pc ls (.int y :: rest))) : W p l e R s m args below meth c H locs cells slots Q (F0 m pc ls (.int x :: rest)) := h ▸ k
theorem lv_pc {q : Nat} {st : List Value} (h : pc = q) (k : W p l e R s m args below meth c H locs cells slots Q (F0 m q ls st)) : W p l e R s m args below meth c H locs cells slots Q (F0 m pc ls st) := h ▸ k
theorem uPre {av : List Value} (hK : va_K D vwCl (uT K) s) (hN : uNs s) (hZ : uZ K A s s.heap) (hS : va_S A s.heap H locs) (hF : ∀ q, va_A ws H.size q → A q) (hP : va_P D vwCl ws H) (hD : va_D A ws) : ∀ U : State, U.heap = H → s.WarmedH U.vm → va_Pc av (uP D K ws H.size) av.toArray U := fun U hU hW => ⟨rfl, by rw [hU], by rw [hU]; exact hP, va_K.moved hW.alike hK, hD.weaken (fun _ _ _ _ => trivial), hN.warm hW, by rw [hU]; exact hZ.to hW hF hS.2.1⟩
/-- a body: from its start -/
theorem uMet {y : MethodName} {rm : Room} {av : List Value} {sz mc ms : Nat} (Qc : (Nat → Prop) → Array Value → State → Outcome → State → Prop) (hy : plainName y.cls = true) (hav : (lg_sl av).length ≤ nL)
    (h : ∀ (p : Program) (e : Env) (s : State) (m : MethodId) (below : List Frame) (meth : Method) (c : Code) (A : Nat → Prop) (ls : Array Slot), A = va_A ws s.heap.size → s.heap.size = sz → uB p s m av.toArray meth c D K y.cls y.name cc nL ret A → va_P D vwCl ws s.heap → va_D A ws → va_S A s.heap s.heap [] → lv_has ls nL (lv_args 0 av) →
      W p l e rm s m av.toArray below meth c s.heap [] 0 0 (MQ below (Qc A) av.toArray s mc ms A) (F0 m 0 ls [])) : Met l y (uw y cc nL ret) rm (va_Pc av (uP D K ws sz)) (Qc (va_A ws sz)) mc ms (va_A ws sz) := by
  refine Met.ofW (cc := cc) (maxL := nL) (ret := ret) hy rfl ?_
  intro p e s m args below meth c s₁ B hml hv
  obtain ⟨rfl, hsz, hP, hK, hD0, hN, hZ⟩ := hv
  have hts := atoms_spec (ws := uw y cc nL ret) B.pre
  subst hsz
  have hl := lv_entry av (n := nL) hav
  rw [lg_entry_eq]
  generalize hls : (lg_sl av ++ List.replicate (nL - (lg_sl av).length) Slot.unset).toArray = ls at hl ⊢
  exact h p e s m below meth c (va_A ws s.heap.size) ls rfl rfl ⟨B.exec, B.bytes, B.returns, hml, findClass_of_methodNamed B.named, fun w hw => hts w (List.mem_cons_of_mem _ hw), B.notSynchronized, (name_of_methodNamed B.named B.method).1, hK, fun q hq => Or.inr hq, hN, hZ⟩ hP (hD0.self (sz := s.heap.size)) va_S.rf hl
/-- a world before an invokevirtual of an own method -/
theorem uCW {y : MethodName} {bytes : ByteArray} {maxL index n : Nat} {retc : Option FieldType} {rm : Room} {C : String} (ht : ∀ w ∈ uTb, w.before args s = true) (hC : y.cls = C) (hc : Cond.code y bytes maxL retc ∈ uTb) (hini : Cond.initialized C ∈ uTb) (hl : Cond.methodLink own index y ∈ uTb) (hin : Cond.instanceMethod y ∈ uTb) (hse : Cond.selects C y y ∈ uTb)
    (hd : y.cls ≠ "java/lang/invoke/MethodHandle" ∧ y.cls ≠ "java/lang/invoke/VarHandle" ∧ (parseMethodDescriptor y.desc).map (fun d => d.parameters.length) = some n) (hR : rm.frames + 1 ≤ R.frames ∧ 8 + (maxL + 11) + rm.locals ≤ R.locals) : CallW R s args own C index y bytes maxL retc (uw y bytes maxL retc) rm rm.cells rm.slots n := by
  subst hC
  exact ⟨callB_of n ht (uGoodC hc) rfl rfl rfl (ht _ hini) (ht _ hl) hd hR, ht _ hin, ht _ hse⟩
theorem uCS {y : MethodName} {bytes : ByteArray} {maxL index n : Nat} {retc : Option FieldType} {rm : Room} (ht : ∀ w ∈ uTb, w.before args s = true) (hc : Cond.code y bytes maxL retc ∈ uTb) (hini : Cond.initialized y.cls ∈ uTb) (hl : Cond.methodLink own index y ∈ uTb) (hst : Cond.static y ∈ uTb)
    (hd : y.cls ≠ "java/lang/invoke/MethodHandle" ∧ y.cls ≠ "java/lang/invoke/VarHandle" ∧ (parseMethodDescriptor y.desc).map (fun d => d.parameters.length) = some n) (hR : rm.frames + 1 ≤ R.frames ∧ 8 + (maxL + 11) + rm.locals ≤ R.locals) : CallB R s args own index y bytes maxL retc (uw y bytes maxL retc) rm rm.cells rm.slots n ∧ (Cond.static y).before args s = true :=
  ⟨callB_of n ht (uGoodC hc) rfl rfl rfl (ht _ hini) (ht _ hl) hd hR, ht _ hst⟩
theorem uCI {y : MethodName} {bytes : ByteArray} {maxL index n : Nat} {rm : Room} (ht : ∀ w ∈ uTb, w.before args s = true) (hc : Cond.code y bytes maxL none ∈ uTb) (hini : Cond.initialized y.cls ∈ uTb) (hl : Cond.methodLink own index y ∈ uTb) (hin : Cond.instanceMethod y ∈ uTb) (hnm : y.name = "<init>")
    (hd : y.cls ≠ "java/lang/invoke/MethodHandle" ∧ y.cls ≠ "java/lang/invoke/VarHandle" ∧ (parseMethodDescriptor y.desc).map (fun d => d.parameters.length) = some n) (hR : rm.frames + 1 ≤ R.frames ∧ 8 + (maxL + 11) + rm.locals ≤ R.locals) : CallB R s args own index y bytes maxL none (uw y bytes maxL none) rm rm.cells rm.slots n ∧ y.name = "<init>" ∧ (Cond.instanceMethod y).before args s = true :=
  ⟨callB_of n ht (uGoodC hc) rfl rfl rfl (ht _ hini) (ht _ hl) hd hR, hnm, ht _ hin⟩

def uQi {S : Type} (D : va_G) (post : Int32 → S → Prop) (wp : S → va_W) (A : Nat → Prop) : Array Value → State → Outcome → State → Prop := va_Qi post (fun u => uQ D A (wp u)) A
def uQl {S : Type} (D : va_G) (post : Int64 → S → Prop) (wp : S → va_W) (A : Nat → Prop) : Array Value → State → Outcome → State → Prop := va_Ql post (fun u => uQ D A (wp u)) A
def uQv {S : Type} (D : va_G) (post : S → Prop) (wp : S → va_W) (A : Nat → Prop) : Array Value → State → Outcome → State → Prop := va_Qv post (fun u => uQ D A (wp u)) A
def uQr {S : Type} (D : va_G) (post : Nat → S → Prop) (wp : S → va_W) (A : Nat → Prop) : Array Value → State → Outcome → State → Prop := va_Qr (S := S × Nat) (fun u => post u.2 u.1) (fun u a t => u.2 = a ∧ uQ D A (wp u.1) t) A
abbrev uMi {S : Type} (l : Launch) (y : MethodName) (cc : ByteArray) (nL : Nat) (ret : Option FieldType) (rm : Room) (av : List Value) (D : va_G) (K : Nat → ClassId) (ws : va_W) (sz : Nat) (post : Int32 → S → Prop) (wp : S → va_W) : Prop := Met l y (uw y cc nL ret) rm (va_Pc av (uP D K ws sz)) (uQi D post wp (va_A ws sz)) rm.cells rm.slots (va_A ws sz)
abbrev uMl {S : Type} (l : Launch) (y : MethodName) (cc : ByteArray) (nL : Nat) (ret : Option FieldType) (rm : Room) (av : List Value) (D : va_G) (K : Nat → ClassId) (ws : va_W) (sz : Nat) (post : Int64 → S → Prop) (wp : S → va_W) : Prop := Met l y (uw y cc nL ret) rm (va_Pc av (uP D K ws sz)) (uQl D post wp (va_A ws sz)) rm.cells rm.slots (va_A ws sz)
abbrev uMv {S : Type} (l : Launch) (y : MethodName) (cc : ByteArray) (nL : Nat) (rm : Room) (av : List Value) (D : va_G) (K : Nat → ClassId) (ws : va_W) (sz : Nat) (post : S → Prop) (wp : S → va_W) : Prop := Met l y (uw y cc nL none) rm (va_Pc av (uP D K ws sz)) (uQv D post wp (va_A ws sz)) rm.cells rm.slots (va_A ws sz)
abbrev uMr {S : Type} (l : Launch) (y : MethodName) (cc : ByteArray) (nL : Nat) (ret : Option FieldType) (rm : Room) (av : List Value) (D : va_G) (K : Nat → ClassId) (ws : va_W) (sz : Nat) (post : Nat → S → Prop) (wp : S → va_W) : Prop := Met l y (uw y cc nL ret) rm (va_Pc av (uP D K ws sz)) (uQr D post wp (va_A ws sz)) rm.cells rm.slots (va_A ws sz)
-- ends
theorem uRi {S : Type} {post : Int32 → S → Prop} {wp : S → va_W} {v : Int32} (u : S) (B : uB p s m args meth c D K own nm cc nL (some .int) A) (hpost : post v u) (hP : va_P D vwCl (wp u) H) (hD : va_D A (wp u)) (hS : va_S A s.heap H locs) (hdg : decode cc pc = .ok (.ireturn, 1)) : W p l e R s m args below meth c H locs cells slots (MQ below (uQi D post wp A) args s cells slots A) (F0 m pc ls [.int v]) := by
  obtain ⟨hx, hb, hr, hml, hown, hts, hlocks, hnm, hK, hA, hN, hZ⟩ := B
  exact W.iret (v := v) hx hb hr (fun t ht hW => ⟨⟨v, u, rfl, hpost, by rw [ht]; exact hP, hD⟩, hS.F ht⟩) hS.2.2 hdg
theorem uRz {S : Type} {post : Int32 → S → Prop} {wp : S → va_W} {v : Int32} {ty : FieldType} (u : S) (B : uB p s m args meth c D K own nm cc nL (some ty) A) (hn : narrow ty (.int v) = .int v) (hpost : post v u) (hP : va_P D vwCl (wp u) H) (hD : va_D A (wp u)) (hS : va_S A s.heap H locs) (hdg : decode cc pc = .ok (.ireturn, 1)) : W p l e R s m args below meth c H locs cells slots (MQ below (uQi D post wp A) args s cells slots A) (F0 m pc ls [.int v]) := by
  obtain ⟨hx, hb, hr, hml, hown, hts, hlocks, hnm, hK, hA, hN, hZ⟩ := B
  exact W.zret (v := v) hx hb hr hn (fun t ht hW => ⟨⟨v, u, rfl, hpost, by rw [ht]; exact hP, hD⟩, hS.F ht⟩) hS.2.2 hdg
theorem uRl {S : Type} {post : Int64 → S → Prop} {wp : S → va_W} {v : Int64} (u : S) (B : uB p s m args meth c D K own nm cc nL (some .long) A) (hpost : post v u) (hP : va_P D vwCl (wp u) H) (hD : va_D A (wp u)) (hS : va_S A s.heap H locs) (hdg : decode cc pc = .ok (.lreturn, 1)) : W p l e R s m args below meth c H locs cells slots (MQ below (uQl D post wp A) args s cells slots A) (F0 m pc ls [.long v]) := by
  obtain ⟨hx, hb, hr, hml, hown, hts, hlocks, hnm, hK, hA, hN, hZ⟩ := B
  exact W.lret (v := v) hx hb hr (fun t ht hW => ⟨⟨v, u, rfl, hpost, by rw [ht]; exact hP, hD⟩, hS.F ht⟩) hS.2.2 hdg
theorem uRv {S : Type} {post : S → Prop} {wp : S → va_W} (u : S) (B : uB p s m args meth c D K own nm cc nL none A) (hpost : post u) (hP : va_P D vwCl (wp u) H) (hD : va_D A (wp u)) (hS : va_S A s.heap H locs) (hdg : decode cc pc = .ok (.return_, 1)) : W p l e R s m args below meth c H locs cells slots (MQ below (uQv D post wp A) args s cells slots A) (F0 m pc ls []) := by
  obtain ⟨hx, hb, hr, hml, hown, hts, hlocks, hnm, hK, hA, hN, hZ⟩ := B
  exact W.vret hx hb hr (fun t ht hW => ⟨⟨u, rfl, hpost, by rw [ht]; exact hP, hD⟩, hS.F ht⟩) hS.2.2 hdg
theorem uRr {S : Type} {post : Nat → S → Prop} {wp : S → va_W} {v : Nat} {n : String} (u : S) (B : uB p s m args meth c D K own nm cc nL (some (.object n)) A) (hpost : post v u) (hP : va_P D vwCl (wp u) H) (hD : va_D A (wp u)) (hS : va_S A s.heap H locs) (hdg : decode cc pc = .ok (.areturn, 1)) : W p l e R s m args below meth c H locs cells slots (MQ below (uQr D post wp A) args s cells slots A) (F0 m pc ls [.ref v]) := by
  obtain ⟨hx, hb, hr, hml, hown, hts, hlocks, hnm, hK, hA, hN, hZ⟩ := B
  exact W.aret (v := .ref v) hx hb hr (Or.inl ⟨n, rfl⟩) (Or.inr ⟨v, rfl⟩) (fun t ht hW => ⟨⟨(u, v), v, rfl, hpost, rfl, by rw [ht]; exact hP, hD⟩, hS.F ht⟩) hS.2.2 hdg
-- behind a call
theorem uAi {S : Type} {post : Int32 → S → Prop} {wp : S → va_W} {wc wr : va_W} {mc ms : Nat} {st0 : List Value} {av : Array Value} (hP : va_P D vwCl ws H) (hD : va_D A ws) (hS : va_S A H0 H locs) (hA : ∀ q, H0.size ≤ q → A q) (isC isR : List Nat) (hC : isC.map (fun i => ws[i]?) = wc.map some) (hR : isR.map (fun i => ws[i]?) = wr.map some) (hn : va_nd isR = true) (hdis : ∀ i ∈ isR, i ∉ isC)
    (hr : va_Run p l e R s m args below meth c H locs cells slots mc ms (F0 m pc ls st0) rest (uQi D post wp (va_A wc H.size) av) (va_A wc H.size))
    (kk : ∀ (r : Int32) (u : S) (H1 : Heap) (locs1 : List Loc), post r u → va_P D vwCl (wr ++ wp u) H1 → va_D A (wr ++ wp u) → va_S A H0 H1 locs1 → W p l e R s m args below meth c H1 locs1 (cells + mc) (slots + ms) Q (F0 m (pc + 3) ls (.int r :: rest))) : W p l e R s m args below meth c H locs cells slots Q (F0 m pc ls st0) := by
  have hFc := va_free (wc := wc) hD hS hA isC hC
  refine va_calli hr hS (fun q _ h => hFc q h) hFc (fun r u t H1 locs1 ht hvm hw hB hz1 hk1 hS1 => ?_)
  obtain ⟨hP1, hD1⟩ := hB
  rw [ht] at hP1
  obtain ⟨hP2, hD2⟩ := va_join hP hD isC isR hC hR hn hdis hk1 hFc hP1 hD1
  exact kk r u H1 locs1 hw hP2 hD2 hS1
theorem uAl {S : Type} {post : Int64 → S → Prop} {wp : S → va_W} {wc wr : va_W} {mc ms : Nat} {st0 : List Value} {av : Array Value} (hP : va_P D vwCl ws H) (hD : va_D A ws) (hS : va_S A H0 H locs) (hA : ∀ q, H0.size ≤ q → A q) (isC isR : List Nat) (hC : isC.map (fun i => ws[i]?) = wc.map some) (hR : isR.map (fun i => ws[i]?) = wr.map some) (hn : va_nd isR = true) (hdis : ∀ i ∈ isR, i ∉ isC)
    (hr : va_Run p l e R s m args below meth c H locs cells slots mc ms (F0 m pc ls st0) rest (uQl D post wp (va_A wc H.size) av) (va_A wc H.size))
    (kk : ∀ (r : Int64) (u : S) (H1 : Heap) (locs1 : List Loc), post r u → va_P D vwCl (wr ++ wp u) H1 → va_D A (wr ++ wp u) → va_S A H0 H1 locs1 → W p l e R s m args below meth c H1 locs1 (cells + mc) (slots + ms) Q (F0 m (pc + 3) ls (.long r :: rest))) : W p l e R s m args below meth c H locs cells slots Q (F0 m pc ls st0) := by
  have hFc := va_free (wc := wc) hD hS hA isC hC
  refine va_calll hr hS (fun q _ h => hFc q h) hFc (fun r u t H1 locs1 ht hvm hw hB hz1 hk1 hS1 => ?_)
  obtain ⟨hP1, hD1⟩ := hB
  rw [ht] at hP1
  obtain ⟨hP2, hD2⟩ := va_join hP hD isC isR hC hR hn hdis hk1 hFc hP1 hD1
  exact kk r u H1 locs1 hw hP2 hD2 hS1
theorem uAv {S : Type} {post : S → Prop} {wp : S → va_W} {wc wr : va_W} {mc ms : Nat} {st0 : List Value} {av : Array Value} (hP : va_P D vwCl ws H) (hD : va_D A ws) (hS : va_S A H0 H locs) (hA : ∀ q, H0.size ≤ q → A q) (isC isR : List Nat) (hC : isC.map (fun i => ws[i]?) = wc.map some) (hR : isR.map (fun i => ws[i]?) = wr.map some) (hn : va_nd isR = true) (hdis : ∀ i ∈ isR, i ∉ isC)
    (hr : va_Run p l e R s m args below meth c H locs cells slots mc ms (F0 m pc ls st0) rest (uQv D post wp (va_A wc H.size) av) (va_A wc H.size))
    (kk : ∀ (u : S) (H1 : Heap) (locs1 : List Loc), post u → va_P D vwCl (wr ++ wp u) H1 → va_D A (wr ++ wp u) → va_S A H0 H1 locs1 → W p l e R s m args below meth c H1 locs1 (cells + mc) (slots + ms) Q (F0 m (pc + 3) ls rest)) : W p l e R s m args below meth c H locs cells slots Q (F0 m pc ls st0) := by
  have hFc := va_free (wc := wc) hD hS hA isC hC
  refine va_callv hr hS (fun q _ h => hFc q h) hFc (fun u t H1 locs1 ht hvm hw hB hz1 hk1 hS1 => ?_)
  obtain ⟨hP1, hD1⟩ := hB
  rw [ht] at hP1
  obtain ⟨hP2, hD2⟩ := va_join hP hD isC isR hC hR hn hdis hk1 hFc hP1 hD1
  exact kk u H1 locs1 hw hP2 hD2 hS1
theorem uAr {S : Type} {post : Nat → S → Prop} {wp : S → va_W} {wc wr : va_W} {mc ms : Nat} {st0 : List Value} {av : Array Value} (hP : va_P D vwCl ws H) (hD : va_D A ws) (hS : va_S A H0 H locs) (hA : ∀ q, H0.size ≤ q → A q) (isC isR : List Nat) (hC : isC.map (fun i => ws[i]?) = wc.map some) (hR : isR.map (fun i => ws[i]?) = wr.map some) (hn : va_nd isR = true) (hdis : ∀ i ∈ isR, i ∉ isC)
    (hr : va_Run p l e R s m args below meth c H locs cells slots mc ms (F0 m pc ls st0) rest (uQr D post wp (va_A wc H.size) av) (va_A wc H.size))
    (kk : ∀ (r : Nat) (u : S) (H1 : Heap) (locs1 : List Loc), post r u → va_P D vwCl (wr ++ wp u) H1 → va_D A (wr ++ wp u) → va_S A H0 H1 locs1 → W p l e R s m args below meth c H1 locs1 (cells + mc) (slots + ms) Q (F0 m (pc + 3) ls (.ref r :: rest))) : W p l e R s m args below meth c H locs cells slots Q (F0 m pc ls st0) := by
  have hFc := va_free (wc := wc) hD hS hA isC hC
  refine va_callr hr hS (fun q _ h => hFc q h) hFc (fun u ra t H1 locs1 ht hvm hw hB hz1 hk1 hS1 => ?_)
  obtain ⟨u, v⟩ := u
  obtain ⟨rfl, hP1, hD1⟩ := hB
  rw [ht] at hP1
  obtain ⟨hP2, hD2⟩ := va_join hP hD isC isR hC hR hn hdis hk1 hFc hP1 hD1
  exact kk v u H1 locs1 hw hP2 hD2 hS1
theorem uVi {S : Type} {post : Int32 → S → Prop} {wp : S → va_W} {wr : va_W} {y : MethodName} {bytes : ByteArray} {maxL index n : Nat} {retc : Option FieldType} {rm : Room} {As : List Value} {C : String} {b ci : Nat} {fs : List Value} {TC : u_T} {NC : Nat} (wc : va_W) (B : uB p s m args meth c D K own nm cc nL ret A) (hls : ls.size = nL) (hP : va_P D vwCl ws H) (hD : va_D A ws) (hS : va_S A s.heap H locs) (isC isR : List Nat) (hC : isC.map (fun i => ws[i]?) = wc.map some) (hR : isR.map (fun i => ws[i]?) = wr.map some) (hnd : va_nd (isC ++ isR) = true)
    (hM : uMi l y bytes maxL retc rm (.ref b :: As) D K wc H.size post wp) (hw : uWv y C bytes maxL retc n) (hlk : Cond.methodLink own index y ∈ uTb) (hq : wc[0]? = some (b, .inr (ci, fs))) (hcl : vwCl[ci]? = some (C, TC, NC)) {st0 : List Value} (hst : st0 = As.reverse ++ .ref b :: rest) (hn : As.length = n) (hrm : rm.frames + 1 ≤ R.frames ∧ 8 + (maxL + 11) + rm.locals ≤ R.locals) (hro : (rest.map fun v => v.category).sum ≤ 8) (hcs : cells + rm.cells ≤ R.cells ∧ slots + rm.slots ≤ R.slots) (hdg : decode cc pc = .ok (.invokevirtual index, 3))
    (kk : ∀ (r : Int32) (u : S) (H1 : Heap) (locs1 : List Loc), post r u → va_P D vwCl (wr ++ wp u) H1 → va_D A (wr ++ wp u) → va_S A s.heap H1 locs1 → W p l e R s m args below meth c H1 locs1 (cells + rm.cells) (slots + rm.slots) Q (F0 m (pc + 3) ls (.int r :: rest))) : W p l e R s m args below meth c H locs cells slots Q (F0 m pc ls st0) := by
  obtain ⟨hx, hb, hr, hml, hown, hts, hlocks, hnm, hK, hA, hN, hZ⟩ := B
  have hPc : va_P D vwCl wc H := uSub hP isC hC
  obtain ⟨n1, n2, n3⟩ := uNd hnd
  have hDc : va_D A wc := hD.sub isC n1 hC
  subst hst
  exact uAi hP hD hS hA isC isR hC hR n2 n3 (va_runV (As := As) (rest := rest) ⟨hx, hb, hml, hown, hts⟩ hM (uCW hts hw.1 hw.2.1 hw.2.2.1 hlk hw.2.2.2.1 hw.2.2.2.2.1 hw.2.2.2.2.2 hrm) ⟨uBlind, va_recv hK hPc hcl hq, uPre hK hN hZ hS (va_free (wc := wc) hD hS hA isC hC) hPc hDc⟩ rfl hn hls rfl (lv_room hro) hdg hcs) kk
theorem uSi {S : Type} {post : Int32 → S → Prop} {wp : S → va_W} {wr : va_W} {y : MethodName} {bytes : ByteArray} {maxL index n : Nat} {retc : Option FieldType} {rm : Room} {As : List Value} (wc : va_W) (B : uB p s m args meth c D K own nm cc nL ret A) (hls : ls.size = nL) (hP : va_P D vwCl ws H) (hD : va_D A ws) (hS : va_S A s.heap H locs) (isC isR : List Nat) (hC : isC.map (fun i => ws[i]?) = wc.map some) (hR : isR.map (fun i => ws[i]?) = wr.map some) (hnd : va_nd (isC ++ isR) = true)
    (hM : uMi l y bytes maxL retc rm As D K wc H.size post wp) (hw : uWs y bytes maxL retc n) (hlk : Cond.methodLink own index y ∈ uTb) {st0 : List Value} (hst : st0 = As.reverse ++ rest) (hn : As.length = n) (hrm : rm.frames + 1 ≤ R.frames ∧ 8 + (maxL + 11) + rm.locals ≤ R.locals) (hro : (rest.map fun v => v.category).sum ≤ 8) (hcs : cells + rm.cells ≤ R.cells ∧ slots + rm.slots ≤ R.slots) (hdg : decode cc pc = .ok (.invokestatic index, 3))
    (kk : ∀ (r : Int32) (u : S) (H1 : Heap) (locs1 : List Loc), post r u → va_P D vwCl (wr ++ wp u) H1 → va_D A (wr ++ wp u) → va_S A s.heap H1 locs1 → W p l e R s m args below meth c H1 locs1 (cells + rm.cells) (slots + rm.slots) Q (F0 m (pc + 3) ls (.int r :: rest))) : W p l e R s m args below meth c H locs cells slots Q (F0 m pc ls st0) := by
  obtain ⟨hx, hb, hr, hml, hown, hts, hlocks, hnm, hK, hA, hN, hZ⟩ := B
  have hPc : va_P D vwCl wc H := uSub hP isC hC
  obtain ⟨n1, n2, n3⟩ := uNd hnd
  have hDc : va_D A wc := hD.sub isC n1 hC
  subst hst
  exact uAi hP hD hS hA isC isR hC hR n2 n3 (va_runS (As := As) (rest := rest) ⟨hx, hb, hml, hown, hts⟩ hM (uCS hts hw.1 hw.2.1 hlk hw.2.2.1 hw.2.2.2 hrm) ⟨uBlind, uPre hK hN hZ hS (va_free (wc := wc) hD hS hA isC hC) hPc hDc⟩ rfl hn hls rfl (lv_room hro) hdg hcs) kk
theorem uVl {S : Type} {post : Int64 → S → Prop} {wp : S → va_W} {wr : va_W} {y : MethodName} {bytes : ByteArray} {maxL index n : Nat} {retc : Option FieldType} {rm : Room} {As : List Value} {C : String} {b ci : Nat} {fs : List Value} {TC : u_T} {NC : Nat} (wc : va_W) (B : uB p s m args meth c D K own nm cc nL ret A) (hls : ls.size = nL) (hP : va_P D vwCl ws H) (hD : va_D A ws) (hS : va_S A s.heap H locs) (isC isR : List Nat) (hC : isC.map (fun i => ws[i]?) = wc.map some) (hR : isR.map (fun i => ws[i]?) = wr.map some) (hnd : va_nd (isC ++ isR) = true)
    (hM : uMl l y bytes maxL retc rm (.ref b :: As) D K wc H.size post wp) (hw : uWv y C bytes maxL retc n) (hlk : Cond.methodLink own index y ∈ uTb) (hq : wc[0]? = some (b, .inr (ci, fs))) (hcl : vwCl[ci]? = some (C, TC, NC)) {st0 : List Value} (hst : st0 = As.reverse ++ .ref b :: rest) (hn : As.length = n) (hrm : rm.frames + 1 ≤ R.frames ∧ 8 + (maxL + 11) + rm.locals ≤ R.locals) (hro : (rest.map fun v => v.category).sum ≤ 8) (hcs : cells + rm.cells ≤ R.cells ∧ slots + rm.slots ≤ R.slots) (hdg : decode cc pc = .ok (.invokevirtual index, 3))
    (kk : ∀ (r : Int64) (u : S) (H1 : Heap) (locs1 : List Loc), post r u → va_P D vwCl (wr ++ wp u) H1 → va_D A (wr ++ wp u) → va_S A s.heap H1 locs1 → W p l e R s m args below meth c H1 locs1 (cells + rm.cells) (slots + rm.slots) Q (F0 m (pc + 3) ls (.long r :: rest))) : W p l e R s m args below meth c H locs cells slots Q (F0 m pc ls st0) := by
  obtain ⟨hx, hb, hr, hml, hown, hts, hlocks, hnm, hK, hA, hN, hZ⟩ := B
  have hPc : va_P D vwCl wc H := uSub hP isC hC
  obtain ⟨n1, n2, n3⟩ := uNd hnd
  have hDc : va_D A wc := hD.sub isC n1 hC
  subst hst
  exact uAl hP hD hS hA isC isR hC hR n2 n3 (va_runV (As := As) (rest := rest) ⟨hx, hb, hml, hown, hts⟩ hM (uCW hts hw.1 hw.2.1 hw.2.2.1 hlk hw.2.2.2.1 hw.2.2.2.2.1 hw.2.2.2.2.2 hrm) ⟨uBlind, va_recv hK hPc hcl hq, uPre hK hN hZ hS (va_free (wc := wc) hD hS hA isC hC) hPc hDc⟩ rfl hn hls rfl (lv_room hro) hdg hcs) kk
theorem uSl {S : Type} {post : Int64 → S → Prop} {wp : S → va_W} {wr : va_W} {y : MethodName} {bytes : ByteArray} {maxL index n : Nat} {retc : Option FieldType} {rm : Room} {As : List Value} (wc : va_W) (B : uB p s m args meth c D K own nm cc nL ret A) (hls : ls.size = nL) (hP : va_P D vwCl ws H) (hD : va_D A ws) (hS : va_S A s.heap H locs) (isC isR : List Nat) (hC : isC.map (fun i => ws[i]?) = wc.map some) (hR : isR.map (fun i => ws[i]?) = wr.map some) (hnd : va_nd (isC ++ isR) = true)
    (hM : uMl l y bytes maxL retc rm As D K wc H.size post wp) (hw : uWs y bytes maxL retc n) (hlk : Cond.methodLink own index y ∈ uTb) {st0 : List Value} (hst : st0 = As.reverse ++ rest) (hn : As.length = n) (hrm : rm.frames + 1 ≤ R.frames ∧ 8 + (maxL + 11) + rm.locals ≤ R.locals) (hro : (rest.map fun v => v.category).sum ≤ 8) (hcs : cells + rm.cells ≤ R.cells ∧ slots + rm.slots ≤ R.slots) (hdg : decode cc pc = .ok (.invokestatic index, 3))
    (kk : ∀ (r : Int64) (u : S) (H1 : Heap) (locs1 : List Loc), post r u → va_P D vwCl (wr ++ wp u) H1 → va_D A (wr ++ wp u) → va_S A s.heap H1 locs1 → W p l e R s m args below meth c H1 locs1 (cells + rm.cells) (slots + rm.slots) Q (F0 m (pc + 3) ls (.long r :: rest))) : W p l e R s m args below meth c H locs cells slots Q (F0 m pc ls st0) := by
  obtain ⟨hx, hb, hr, hml, hown, hts, hlocks, hnm, hK, hA, hN, hZ⟩ := B
  have hPc : va_P D vwCl wc H := uSub hP isC hC
  obtain ⟨n1, n2, n3⟩ := uNd hnd
  have hDc : va_D A wc := hD.sub isC n1 hC
  subst hst
  exact uAl hP hD hS hA isC isR hC hR n2 n3 (va_runS (As := As) (rest := rest) ⟨hx, hb, hml, hown, hts⟩ hM (uCS hts hw.1 hw.2.1 hlk hw.2.2.1 hw.2.2.2 hrm) ⟨uBlind, uPre hK hN hZ hS (va_free (wc := wc) hD hS hA isC hC) hPc hDc⟩ rfl hn hls rfl (lv_room hro) hdg hcs) kk
theorem uVv {S : Type} {post : S → Prop} {wp : S → va_W} {wr : va_W} {y : MethodName} {bytes : ByteArray} {maxL index n : Nat} {rm : Room} {As : List Value} {C : String} {b ci : Nat} {fs : List Value} {TC : u_T} {NC : Nat} (wc : va_W) (B : uB p s m args meth c D K own nm cc nL ret A) (hls : ls.size = nL) (hP : va_P D vwCl ws H) (hD : va_D A ws) (hS : va_S A s.heap H locs) (isC isR : List Nat) (hC : isC.map (fun i => ws[i]?) = wc.map some) (hR : isR.map (fun i => ws[i]?) = wr.map some) (hnd : va_nd (isC ++ isR) = true)
    (hM : uMv l y bytes maxL rm (.ref b :: As) D K wc H.size post wp) (hw : uWv y C bytes maxL none n) (hlk : Cond.methodLink own index y ∈ uTb) (hq : wc[0]? = some (b, .inr (ci, fs))) (hcl : vwCl[ci]? = some (C, TC, NC)) {st0 : List Value} (hst : st0 = As.reverse ++ .ref b :: rest) (hn : As.length = n) (hrm : rm.frames + 1 ≤ R.frames ∧ 8 + (maxL + 11) + rm.locals ≤ R.locals) (hro : (rest.map fun v => v.category).sum ≤ 8) (hcs : cells + rm.cells ≤ R.cells ∧ slots + rm.slots ≤ R.slots) (hdg : decode cc pc = .ok (.invokevirtual index, 3))
    (kk : ∀ (u : S) (H1 : Heap) (locs1 : List Loc), post u → va_P D vwCl (wr ++ wp u) H1 → va_D A (wr ++ wp u) → va_S A s.heap H1 locs1 → W p l e R s m args below meth c H1 locs1 (cells + rm.cells) (slots + rm.slots) Q (F0 m (pc + 3) ls rest)) : W p l e R s m args below meth c H locs cells slots Q (F0 m pc ls st0) := by
  obtain ⟨hx, hb, hr, hml, hown, hts, hlocks, hnm, hK, hA, hN, hZ⟩ := B
  have hPc : va_P D vwCl wc H := uSub hP isC hC
  obtain ⟨n1, n2, n3⟩ := uNd hnd
  have hDc : va_D A wc := hD.sub isC n1 hC
  subst hst
  exact uAv hP hD hS hA isC isR hC hR n2 n3 (va_runV (As := As) (rest := rest) ⟨hx, hb, hml, hown, hts⟩ hM (uCW hts hw.1 hw.2.1 hw.2.2.1 hlk hw.2.2.2.1 hw.2.2.2.2.1 hw.2.2.2.2.2 hrm) ⟨uBlind, va_recv hK hPc hcl hq, uPre hK hN hZ hS (va_free (wc := wc) hD hS hA isC hC) hPc hDc⟩ rfl hn hls rfl (lv_room hro) hdg hcs) kk
theorem uSv {S : Type} {post : S → Prop} {wp : S → va_W} {wr : va_W} {y : MethodName} {bytes : ByteArray} {maxL index n : Nat} {rm : Room} {As : List Value} (wc : va_W) (B : uB p s m args meth c D K own nm cc nL ret A) (hls : ls.size = nL) (hP : va_P D vwCl ws H) (hD : va_D A ws) (hS : va_S A s.heap H locs) (isC isR : List Nat) (hC : isC.map (fun i => ws[i]?) = wc.map some) (hR : isR.map (fun i => ws[i]?) = wr.map some) (hnd : va_nd (isC ++ isR) = true)
    (hM : uMv l y bytes maxL rm As D K wc H.size post wp) (hw : uWs y bytes maxL none n) (hlk : Cond.methodLink own index y ∈ uTb) {st0 : List Value} (hst : st0 = As.reverse ++ rest) (hn : As.length = n) (hrm : rm.frames + 1 ≤ R.frames ∧ 8 + (maxL + 11) + rm.locals ≤ R.locals) (hro : (rest.map fun v => v.category).sum ≤ 8) (hcs : cells + rm.cells ≤ R.cells ∧ slots + rm.slots ≤ R.slots) (hdg : decode cc pc = .ok (.invokestatic index, 3))
    (kk : ∀ (u : S) (H1 : Heap) (locs1 : List Loc), post u → va_P D vwCl (wr ++ wp u) H1 → va_D A (wr ++ wp u) → va_S A s.heap H1 locs1 → W p l e R s m args below meth c H1 locs1 (cells + rm.cells) (slots + rm.slots) Q (F0 m (pc + 3) ls rest)) : W p l e R s m args below meth c H locs cells slots Q (F0 m pc ls st0) := by
  obtain ⟨hx, hb, hr, hml, hown, hts, hlocks, hnm, hK, hA, hN, hZ⟩ := B
  have hPc : va_P D vwCl wc H := uSub hP isC hC
  obtain ⟨n1, n2, n3⟩ := uNd hnd
  have hDc : va_D A wc := hD.sub isC n1 hC
  subst hst
  exact uAv hP hD hS hA isC isR hC hR n2 n3 (va_runS (As := As) (rest := rest) ⟨hx, hb, hml, hown, hts⟩ hM (uCS hts hw.1 hw.2.1 hlk hw.2.2.1 hw.2.2.2 hrm) ⟨uBlind, uPre hK hN hZ hS (va_free (wc := wc) hD hS hA isC hC) hPc hDc⟩ rfl hn hls rfl (lv_room hro) hdg hcs) kk
theorem uIv {S : Type} {post : S → Prop} {wp : S → va_W} {wr : va_W} {y : MethodName} {bytes : ByteArray} {maxL index n : Nat} {rm : Room} {As : List Value} {b : Nat} (wc : va_W) (B : uB p s m args meth c D K own nm cc nL ret A) (hls : ls.size = nL) (hP : va_P D vwCl ws H) (hD : va_D A ws) (hS : va_S A s.heap H locs) (isC isR : List Nat) (hC : isC.map (fun i => ws[i]?) = wc.map some) (hR : isR.map (fun i => ws[i]?) = wr.map some) (hnd : va_nd (isC ++ isR) = true)
    (hM : uMv l y bytes maxL rm (.ref b :: As) D K wc H.size post wp) (hw : uWi y bytes maxL n) (hlk : Cond.methodLink own index y ∈ uTb) {st0 : List Value} (hst : st0 = As.reverse ++ .ref b :: rest) (hn : As.length = n) (hrm : rm.frames + 1 ≤ R.frames ∧ 8 + (maxL + 11) + rm.locals ≤ R.locals) (hro : (rest.map fun v => v.category).sum ≤ 8) (hcs : cells + rm.cells ≤ R.cells ∧ slots + rm.slots ≤ R.slots) (hdg : decode cc pc = .ok (.invokespecial index, 3))
    (kk : ∀ (u : S) (H1 : Heap) (locs1 : List Loc), post u → va_P D vwCl (wr ++ wp u) H1 → va_D A (wr ++ wp u) → va_S A s.heap H1 locs1 → W p l e R s m args below meth c H1 locs1 (cells + rm.cells) (slots + rm.slots) Q (F0 m (pc + 3) ls rest)) : W p l e R s m args below meth c H locs cells slots Q (F0 m pc ls st0) := by
  obtain ⟨hx, hb, hr, hml, hown, hts, hlocks, hnm, hK, hA, hN, hZ⟩ := B
  have hPc : va_P D vwCl wc H := uSub hP isC hC
  obtain ⟨n1, n2, n3⟩ := uNd hnd
  have hDc : va_D A wc := hD.sub isC n1 hC
  subst hst
  exact uAv hP hD hS hA isC isR hC hR n2 n3 (va_runI (As := As) (rest := rest) ⟨hx, hb, hml, hown, hts⟩ hM (uCI hts hw.1 hw.2.1 hlk hw.2.2.1 hw.2.2.2.1 hw.2.2.2.2 hrm) ⟨uBlind, uPre hK hN hZ hS (va_free (wc := wc) hD hS hA isC hC) hPc hDc⟩ rfl hn hls rfl (lv_room hro) hdg hcs) kk
theorem uVr {S : Type} {post : Nat → S → Prop} {wp : S → va_W} {wr : va_W} {y : MethodName} {bytes : ByteArray} {maxL index n : Nat} {retc : Option FieldType} {rm : Room} {As : List Value} {C : String} {b ci : Nat} {fs : List Value} {TC : u_T} {NC : Nat} (wc : va_W) (B : uB p s m args meth c D K own nm cc nL ret A) (hls : ls.size = nL) (hP : va_P D vwCl ws H) (hD : va_D A ws) (hS : va_S A s.heap H locs) (isC isR : List Nat) (hC : isC.map (fun i => ws[i]?) = wc.map some) (hR : isR.map (fun i => ws[i]?) = wr.map some) (hnd : va_nd (isC ++ isR) = true)
    (hM : uMr l y bytes maxL retc rm (.ref b :: As) D K wc H.size post wp) (hw : uWv y C bytes maxL retc n) (hlk : Cond.methodLink own index y ∈ uTb) (hq : wc[0]? = some (b, .inr (ci, fs))) (hcl : vwCl[ci]? = some (C, TC, NC)) {st0 : List Value} (hst : st0 = As.reverse ++ .ref b :: rest) (hn : As.length = n) (hrm : rm.frames + 1 ≤ R.frames ∧ 8 + (maxL + 11) + rm.locals ≤ R.locals) (hro : (rest.map fun v => v.category).sum ≤ 8) (hcs : cells + rm.cells ≤ R.cells ∧ slots + rm.slots ≤ R.slots) (hdg : decode cc pc = .ok (.invokevirtual index, 3))
    (kk : ∀ (r : Nat) (u : S) (H1 : Heap) (locs1 : List Loc), post r u → va_P D vwCl (wr ++ wp u) H1 → va_D A (wr ++ wp u) → va_S A s.heap H1 locs1 → W p l e R s m args below meth c H1 locs1 (cells + rm.cells) (slots + rm.slots) Q (F0 m (pc + 3) ls (.ref r :: rest))) : W p l e R s m args below meth c H locs cells slots Q (F0 m pc ls st0) := by
  obtain ⟨hx, hb, hr, hml, hown, hts, hlocks, hnm, hK, hA, hN, hZ⟩ := B
  have hPc : va_P D vwCl wc H := uSub hP isC hC
  obtain ⟨n1, n2, n3⟩ := uNd hnd
  have hDc : va_D A wc := hD.sub isC n1 hC
  subst hst
  exact uAr hP hD hS hA isC isR hC hR n2 n3 (va_runV (As := As) (rest := rest) ⟨hx, hb, hml, hown, hts⟩ hM (uCW hts hw.1 hw.2.1 hw.2.2.1 hlk hw.2.2.2.1 hw.2.2.2.2.1 hw.2.2.2.2.2 hrm) ⟨uBlind, va_recv hK hPc hcl hq, uPre hK hN hZ hS (va_free (wc := wc) hD hS hA isC hC) hPc hDc⟩ rfl hn hls rfl (lv_room hro) hdg hcs) kk
theorem uGet {ref C : String} {T : u_T} {N ci index : Nat} (B : uB p s m args meth c D K own nm cc nL ret A) (hin : ∀ w ∈ u_ws C T N, w ∈ uTb) (hP : va_P D vwCl ws H) (q0 : Nat) {fs : List Value} (he : ws[q0]? = some (a, .inr (ci, fs))) (hc : vwCl[ci]? = some (C, T, N)) (k : Nat) (hk : Nat.ble (k + 1) N = true) (hlink : Cond.fieldLink own index ref (T k).2.1 (T k).2.2.1 ∈ uTb) (href : (T k).1 = ref) {v : Value} (hv : fs[k]? = some v) (hdg : decode cc pc = .ok (.getfield index, 3)) (kk : W p l e R s m args below meth c H locs cells slots Q (F0 m (pc + 3) ls (v :: rest))) : W p l e R s m args below meth c H locs cells slots Q (F0 m pc ls (.ref a :: rest)) := by
  obtain ⟨hx, hb, hr, hml, hown, hts, hlocks, hnm, hK, hA, hN, hZ⟩ := B
  exact va_get hx hb hts hin hown hK hP q0 he hc k (Nat.le_of_ble_eq_true hk) (hts _ hlink) (fun x h => by rw [← href]; exact h) hv hdg kk
theorem uPut {ref C : String} {T : u_T} {N ci index : Nat} {ws' : va_W} (B : uB p s m args meth c D K own nm cc nL ret A) (hin : ∀ w ∈ u_ws C T N, w ∈ uTb) {ty0 : Nat → FieldType} (hty : ∀ k, k < N → parseFieldDescriptor (T k).2.2.1 = some (ty0 k)) (hnms : ∀ a, a < N → ∀ b, b < N → a ≠ b → (T a).2.1 ≠ (T b).2.1) (hP : va_P D vwCl ws H) (hD : va_D A ws) (hS : va_S A H0 H locs) (q0 : Nat) {fs : List Value} (he : ws[q0]? = some (a, .inr (ci, fs))) (hc : vwCl[ci]? = some (C, T, N)) (k : Nat) (hk : Nat.ble (k + 1) N = true) (hlink : Cond.fieldLink own index ref (T k).2.1 (T k).2.2.1 ∈ uTb) (href : (T k).1 = ref) (hfin : (T k).2.2.2 = false) {v : Value} (hn : narrow (ty0 k) v = v) (hfit : fits (ty0 k) v = true) (hl : Nat.ble (k + 1) fs.length = true) (hw : ws.set q0 (a, .inr (ci, fs.set k v)) = ws') (hdg : decode cc pc = .ok (.putfield index, 3)) (kk : ∀ (H1 : Heap) (locs1 : List Loc), va_P D vwCl ws' H1 → va_D A ws' → va_S A H0 H1 locs1 → W p l e R s m args below meth c H1 locs1 cells slots Q (F0 m (pc + 3) ls rest)) : W p l e R s m args below meth c H locs cells slots Q (F0 m pc ls (v :: .ref a :: rest)) := by
  obtain ⟨hx, hb, hr, hml, hown, hts, hlocks, hnm, hK, hA, hN, hZ⟩ := B
  subst hw
  exact va_put hx hb hts hin ty0 hty hnms hown hK hP hD hS q0 he hc k (Nat.le_of_ble_eq_true hk) (hts _ hlink) (fun x h => by rw [← href]; exact h) hfin (hty k (Nat.le_of_ble_eq_true hk)) hn hfit (Nat.le_of_ble_eq_true hl) hdg kk
theorem uPutF {ref C : String} {T : u_T} {N ci index : Nat} {ws' : va_W} (B : uB p s m args meth c D K own "<init>" cc nL ret A) (hin : ∀ w ∈ u_ws C T N, w ∈ uTb) {ty0 : Nat → FieldType} (hty : ∀ k, k < N → parseFieldDescriptor (T k).2.2.1 = some (ty0 k)) (hnms : ∀ a, a < N → ∀ b, b < N → a ≠ b → (T a).2.1 ≠ (T b).2.1) (hP : va_P D vwCl ws H) (hD : va_D A ws) (hS : va_S A H0 H locs) (q0 : Nat) {fs : List Value} (he : ws[q0]? = some (a, .inr (ci, fs))) (hc : vwCl[ci]? = some (C, T, N)) (k : Nat) (hk : Nat.ble (k + 1) N = true) (hlink : Cond.fieldLink own index ref (T k).2.1 (T k).2.2.1 ∈ uTb) (href : (T k).1 = ref) (hown2 : ref = own) (hfin : (T k).2.2.2 = true) {v : Value} (hn : narrow (ty0 k) v = v) (hfit : fits (ty0 k) v = true) (hl : Nat.ble (k + 1) fs.length = true) (hw : ws.set q0 (a, .inr (ci, fs.set k v)) = ws') (hdg : decode cc pc = .ok (.putfield index, 3)) (kk : ∀ (H1 : Heap) (locs1 : List Loc), va_P D vwCl ws' H1 → va_D A ws' → va_S A H0 H1 locs1 → W p l e R s m args below meth c H1 locs1 cells slots Q (F0 m (pc + 3) ls rest)) : W p l e R s m args below meth c H locs cells slots Q (F0 m pc ls (v :: .ref a :: rest)) := by
  obtain ⟨hx, hb, hr, hml, hown, hts, hlocks, hnm, hK, hA, hN, hZ⟩ := B
  subst hw
  exact va_putF hx hb hts hin ty0 hty hnms hown hK hP hD hS q0 he hc k (Nat.le_of_ble_eq_true hk) (hts _ hlink) (fun x h => by rw [← href]; exact h) hfin hnm (by rw [href, hown2]) (hty k (Nat.le_of_ble_eq_true hk)) hn hfit (Nat.le_of_ble_eq_true hl) hdg kk
-- arrays of ints, booleans, longs
theorem uIald {n : Nat} {f : Nat → Int32} {i : Int32} {j : Nat} (B : uB p s m args meth c D K own nm cc nL ret A) (hP : va_P D vwCl ws H) (q0 : Nat) (ha : ws[q0]? = some (a, .inl (K 0, n, .inl f))) (hin : ¬ (i < 0 ∨ n ≤ i.toNatClampNeg)) (hj : i.toNatClampNeg = j) (hdg : decode cc pc = .ok (.iaload, 1)) (kk : W p l e R s m args below meth c H locs cells slots Q (F0 m (pc + 1) ls (.int (f j) :: rest))) : W p l e R s m args below meth c H locs cells slots Q (F0 m pc ls (.int i :: .ref a :: rest)) := by
  obtain ⟨hx, hb, hr, hml, hown, hts, hlocks, hnm, hK, hA, hN, hZ⟩ := B
  subst hj
  exact va_iald hx hb hK hP q0 0 ha rfl hin hdg kk
theorem uZald {n : Nat} {f : Nat → Int32} {i : Int32} {j : Nat} (B : uB p s m args meth c D K own nm cc nL ret A) (hP : va_P D vwCl ws H) (q0 : Nat) (ha : ws[q0]? = some (a, .inl (K 1, n, .inl f))) (hin : ¬ (i < 0 ∨ n ≤ i.toNatClampNeg)) (hj : i.toNatClampNeg = j) (hdg : decode cc pc = .ok (.baload, 1)) (kk : W p l e R s m args below meth c H locs cells slots Q (F0 m (pc + 1) ls (.int (f j) :: rest))) : W p l e R s m args below meth c H locs cells slots Q (F0 m pc ls (.int i :: .ref a :: rest)) := by
  obtain ⟨hx, hb, hr, hml, hown, hts, hlocks, hnm, hK, hA, hN, hZ⟩ := B
  subst hj
  exact va_zald hx hb hK hP q0 1 ha rfl hin hdg kk
theorem uLald {n : Nat} {f : Nat → Int64} {i : Int32} {j : Nat} (B : uB p s m args meth c D K own nm cc nL ret A) (hP : va_P D vwCl ws H) (q0 : Nat) (ha : ws[q0]? = some (a, .inl (K 2, n, .inr (.inl f)))) (hin : ¬ (i < 0 ∨ n ≤ i.toNatClampNeg)) (hj : i.toNatClampNeg = j) (hdg : decode cc pc = .ok (.laload, 1)) (kk : W p l e R s m args below meth c H locs cells slots Q (F0 m (pc + 1) ls (.long (f j) :: rest))) : W p l e R s m args below meth c H locs cells slots Q (F0 m pc ls (.int i :: .ref a :: rest)) := by
  obtain ⟨hx, hb, hr, hml, hown, hts, hlocks, hnm, hK, hA, hN, hZ⟩ := B
  subst hj
  exact va_lald hx hb hK hP q0 2 ha rfl hin hdg kk
theorem uIast {n : Nat} {f : Nat → Int32} {i x : Int32} {j : Nat} {ws' : va_W} (B : uB p s m args meth c D K own nm cc nL ret A) (hP : va_P D vwCl ws H) (hD : va_D A ws) (hS : va_S A H0 H locs) (q0 : Nat) (ha : ws[q0]? = some (a, .inl (K 0, n, .inl f))) (hin : ¬ (i < 0 ∨ n ≤ i.toNatClampNeg)) (hj : i.toNatClampNeg = j) (hw : ws.set q0 (a, .inl (K 0, n, .inl (upd f j x))) = ws') (hdg : decode cc pc = .ok (.iastore, 1)) (kk : ∀ (H1 : Heap) (locs1 : List Loc), va_P D vwCl ws' H1 → va_D A ws' → va_S A H0 H1 locs1 → W p l e R s m args below meth c H1 locs1 cells slots Q (F0 m (pc + 1) ls rest)) : W p l e R s m args below meth c H locs cells slots Q (F0 m pc ls (.int x :: .int i :: .ref a :: rest)) := by
  obtain ⟨hx, hb, hr, hml, hown, hts, hlocks, hnm, hK, hA, hN, hZ⟩ := B
  subst hj
  subst hw
  exact va_iast hx hb hK hP hD hS q0 0 ha rfl hin hdg kk
theorem uZast {n : Nat} {f : Nat → Int32} {i x : Int32} {j : Nat} {ws' : va_W} (B : uB p s m args meth c D K own nm cc nL ret A) (hP : va_P D vwCl ws H) (hD : va_D A ws) (hS : va_S A H0 H locs) (q0 : Nat) (ha : ws[q0]? = some (a, .inl (K 1, n, .inl f))) (hin : ¬ (i < 0 ∨ n ≤ i.toNatClampNeg)) (hj : i.toNatClampNeg = j) (hb01 : vp_nar .boolean x = x) (hw : ws.set q0 (a, .inl (K 1, n, .inl (upd f j x))) = ws') (hdg : decode cc pc = .ok (.bastore, 1)) (kk : ∀ (H1 : Heap) (locs1 : List Loc), va_P D vwCl ws' H1 → va_D A ws' → va_S A H0 H1 locs1 → W p l e R s m args below meth c H1 locs1 cells slots Q (F0 m (pc + 1) ls rest)) : W p l e R s m args below meth c H locs cells slots Q (F0 m pc ls (.int x :: .int i :: .ref a :: rest)) := by
  obtain ⟨hx, hb, hr, hml, hown, hts, hlocks, hnm, hK, hA, hN, hZ⟩ := B
  subst hj
  subst hw
  refine va_zast hx hb hK hP hD hS q0 1 ha rfl hin hdg (fun H1 locs1 h1 h2 h3 => ?_)
  rw [hb01] at h1 h2
  exact kk H1 locs1 h1 h2 h3
theorem uLast {n : Nat} {f : Nat → Int64} {i : Int32} {x : Int64} {j : Nat} {ws' : va_W} (B : uB p s m args meth c D K own nm cc nL ret A) (hP : va_P D vwCl ws H) (hD : va_D A ws) (hS : va_S A H0 H locs) (q0 : Nat) (ha : ws[q0]? = some (a, .inl (K 2, n, .inr (.inl f)))) (hin : ¬ (i < 0 ∨ n ≤ i.toNatClampNeg)) (hj : i.toNatClampNeg = j) (hw : ws.set q0 (a, .inl (K 2, n, .inr (.inl (vp_updL f j x)))) = ws') (hdg : decode cc pc = .ok (.lastore, 1)) (kk : ∀ (H1 : Heap) (locs1 : List Loc), va_P D vwCl ws' H1 → va_D A ws' → va_S A H0 H1 locs1 → W p l e R s m args below meth c H1 locs1 cells slots Q (F0 m (pc + 1) ls rest)) : W p l e R s m args below meth c H locs cells slots Q (F0 m pc ls (.long x :: .int i :: .ref a :: rest)) := by
  obtain ⟨hx, hb, hr, hml, hown, hts, hlocks, hnm, hK, hA, hN, hZ⟩ := B
  subst hj
  subst hw
  exact va_last hx hb hK hP hD hS q0 2 ha rfl hin hdg kk
theorem uAlen {x : vp_A} {v : Int32} {t0 : Nat} {ty : FieldType} (B : uB p s m args meth c D K own nm cc nL ret A) (hP : va_P D vwCl ws H) (q0 : Nat) (ha : ws[q0]? = some (a, .inl (K t0, x))) (ht : (uT K)[t0]? = some (K t0, ty)) (hv : Int32.ofNat x.1 = v) (hdg : decode cc pc = .ok (.arraylength, 1)) (kk : W p l e R s m args below meth c H locs cells slots Q (F0 m (pc + 1) ls (.int v :: rest))) : W p l e R s m args below meth c H locs cells slots Q (F0 m pc ls (.ref a :: rest)) := by
  obtain ⟨hx, hb, hr, hml, hown, hts, hlocks, hnm, hK, hA, hN, hZ⟩ := B
  exact va_alen hx hb hK hP q0 t0 ha ht hv hdg kk
/-- a new array of a kind whose class is known already -/
theorem uNewa {atype : ArrayType} {t0 : Nat} {ty : FieldType} {n : Int32} {N' : Nat} {a0 : vp_A} (B : uB p s m args meth c D K own nm cc nL ret A) (harr : Cond.arrayClass (newarray.typeOf atype) ∈ uTb) (hty : newarray.typeOf atype = ty) (ht : (uT K)[t0]? = some (K t0, ty)) (hob : ∀ C : String, ty ≠ .object C) (hP : va_P D vwCl ws H) (hD : va_D A ws) (hS : va_S A s.heap H locs) (ha : ∀ cA : ClassId, vp_cell cA a0 = arrV cA N' (fun _ => defaultValue ty)) (hn : ¬ n < 0) (hNn : n.toNatClampNeg = N') (hbytes : N' * componentBytes ty ≤ 536870912) (hcells : cells + 1 ≤ R.cells) (hslots : slots + N' ≤ R.slots) (hdg : decode cc pc = .ok (.newarray atype, 2))
    (kk : ∀ (q : Nat) (H1 : Heap), va_P D vwCl (ws ++ [(q, .inl (K t0, a0))]) H1 → va_D A (ws ++ [(q, .inl (K t0, a0))]) → va_S A s.heap H1 locs → W p l e R s m args below meth c H1 locs (cells + 1) (slots + N') Q (F0 m (pc + 2) ls (.ref q :: rest))) : W p l e R s m args below meth c H locs cells slots Q (F0 m pc ls (.int n :: rest)) := by
  obtain ⟨hx, hb, hr, hml, hown, hts, hlocks, hnm, hK, hA, hN, hZ⟩ := B
  refine va_newa hx hb (hts _ harr) hty hK hP hD hS hA ha hn hNn hbytes hcells hslots hdg (fun q cA H1 hK2 hP2 hD2 hS2 => ?_)
  have h1 := (hK.2 t0 _ ht).2
  have h2 := (hK2.2 (uT K).length (cA, ty) (by rw [List.getElem?_append_right (Nat.le_refl _), Nat.sub_self]; rfl)).2
  have e : cA = K t0 := by
    cases ty <;> first | exact Option.some.inj (h2.symm.trans h1) | exact absurd rfl (hob _)
  subst e
  exact kk q H1 hP2 hD2 hS2
theorem uNew {C : String} {T : u_T} {N ci index : Nat} (B : uB p s m args meth c D K own nm cc nL ret A) (hin : ∀ w ∈ u_ws C T N, w ∈ uTb) {ty : Nat → FieldType} (hty : ∀ k, k < N → parseFieldDescriptor (T k).2.2.1 = some (ty k)) (hcl : Cond.classLink own index C ∈ uTb) (hinst : Cond.instantiable C N ∈ uTb) (hini : Cond.initialized C ∈ uTb) (hP : va_P D vwCl ws H) (hD : va_D A ws) (hS : va_S A s.heap H locs) (hc : vwCl[ci]? = some (C, T, N)) {fs : List Value} (hfs : (List.range N).all (fun j => decide (defaultValue (ty j) = vp_V fs j)) = true) (hcells : cells + 1 ≤ R.cells) (hslots : slots + N ≤ R.slots) (hdg : decode cc pc = .ok (.new index, 3)) (kk : ∀ (q : Nat) (H1 : Heap), va_P D vwCl (ws ++ [(q, .inr (ci, fs))]) H1 → va_D A (ws ++ [(q, .inr (ci, fs))]) → va_S A s.heap H1 locs → W p l e R s m args below meth c H1 locs (cells + 1) (slots + N) Q (F0 m (pc + 3) ls (.ref q :: rest))) : W p l e R s m args below meth c H locs cells slots Q (F0 m pc ls rest) := by
  obtain ⟨hx, hb, hr, hml, hown, hts, hlocks, hnm, hK, hA, hN, hZ⟩ := B
  exact va_new hx hb hts hin ty hty hown (hts _ hcl) (hts _ hinst) (hts _ hini) hK hP hD hS hA hc (fun j hj => of_decide_eq_true (List.all_eq_true.mp hfs j (List.mem_range.mpr hj))) hcells hslots hdg kk
theorem uObj {idx : Nat} (B : uB p s m args meth c D K own nm cc nL ret A) (hls : ls.size = nL) (hlink : Cond.methodLink own idx objectInit ∈ uTb) (hdg : decode cc pc = .ok (.invokespecial idx, 3)) (hframes : 1 ≤ R.frames) (hlocals : (rest.map fun v => v.category).sum + 12 ≤ R.locals) (kk : W p l e R s m args below meth c H locs cells slots Q (F0 m (pc + 3) ls rest)) : W p l e R s m args below meth c H locs cells slots Q (F0 m pc ls (.ref a :: rest)) := by
  obtain ⟨hx, hb, hr, hml, hown, hts, hlocks, hnm, hK, hA, hN, hZ⟩ := B
  refine W.objInit hx hb hown (hts _ hlink) (hts _ mim_objectInit) (hts _ mco_objectInit) rfl (by rw [hml]; exact hls) rfl hdg hframes ?_ kk
  show 2 * 0 + _ + 12 ≤ _
  omega
theorem uLdc {index : Nat} {v : Int32} (B : uB p s m args meth c D K own nm cc nL ret A) (hconst : Cond.constant own index v ∈ uTb) (hdg : decode cc pc = .ok (.ldc index, 2)) (k : W p l e R s m args below meth c H locs cells slots Q (F0 m (pc + 2) ls (.int v :: rest))) : W p l e R s m args below meth c H locs cells slots Q (F0 m pc ls rest) := by
  obtain ⟨hx, hb, hr, hml, hown, hts, hlocks, hnm, hK, hA, hN, hZ⟩ := B
  exact lv_ldc hx hb hown (hts _ hconst) hdg k
theorem uINv {S : Type} {post : S → Prop} {wp : S → va_W} {wr : va_W} {y : MethodName} {bytes : ByteArray} {maxL index n : Nat} {rm : Room} {As : List Value} {b : Nat} (wc : va_W) (B : uB p s m args meth c D K own nm cc nL ret A) (hls : ls.size = nL) (hP : va_P D vwCl ws H) (hD : va_D A ws) (hS : va_S A s.heap H locs) (isC isR : List Nat) (hC : isC.map (fun i => ws[i]?) = wc.map some) (hR : isR.map (fun i => ws[i]?) = wr.map some) (hnd : va_nd (isC ++ isR) = true)
    (hM : uMv l y bytes maxL rm (.ref b :: As) D K wc H.size post wp) (hw : uWi y bytes maxL n) {host : String} (hlk : va_Nw (.methodLinkNest own index y host) s) {st0 : List Value} (hst : st0 = As.reverse ++ .ref b :: rest) (hn : As.length = n) (hrm : rm.frames + 1 ≤ R.frames ∧ 8 + (maxL + 11) + rm.locals ≤ R.locals) (hro : (rest.map fun v => v.category).sum ≤ 8) (hcs : cells + rm.cells ≤ R.cells ∧ slots + rm.slots ≤ R.slots) (hdg : decode cc pc = .ok (.invokespecial index, 3))
    (kk : ∀ (u : S) (H1 : Heap) (locs1 : List Loc), post u → va_P D vwCl (wr ++ wp u) H1 → va_D A (wr ++ wp u) → va_S A s.heap H1 locs1 → W p l e R s m args below meth c H1 locs1 (cells + rm.cells) (slots + rm.slots) Q (F0 m (pc + 3) ls rest)) : W p l e R s m args below meth c H locs cells slots Q (F0 m pc ls st0) := by
  obtain ⟨hx, hb, hr, hml, hown, hts, hlocks, hnm, hK, hA, hN, hZ⟩ := B
  have hPc : va_P D vwCl wc H := uSub hP isC hC
  obtain ⟨n1, n2, n3⟩ := uNd hnd
  have hDc : va_D A wc := hD.sub isC n1 hC
  subst hst
  exact uAv hP hD hS hA isC isR hC hR n2 n3 (va_runIN (As := As) (rest := rest) ⟨hx, hb, hml, hown, hts⟩ hM ⟨va_cnB n hts (uGoodC hw.1) rfl rfl rfl hlk (hts _ hw.2.1) hw.2.2.2.2 hrm, hw.2.2.2.1, hts _ hw.2.2.1⟩ ⟨uBlind, uPre hK hN hZ hS (va_free (wc := wc) hD hS hA isC hC) hPc hDc⟩ rfl hn hls rfl (lv_room hro) hdg hcs) kk
theorem uSNi {S : Type} {post : Int32 → S → Prop} {wp : S → va_W} {wr : va_W} {y : MethodName} {bytes : ByteArray} {maxL index n : Nat} {retc : Option FieldType} {rm : Room} {As : List Value} (wc : va_W) (B : uB p s m args meth c D K own nm cc nL ret A) (hls : ls.size = nL) (hP : va_P D vwCl ws H) (hD : va_D A ws) (hS : va_S A s.heap H locs) (isC isR : List Nat) (hC : isC.map (fun i => ws[i]?) = wc.map some) (hR : isR.map (fun i => ws[i]?) = wr.map some) (hnd : va_nd (isC ++ isR) = true)
    (hM : uMi l y bytes maxL retc rm As D K wc H.size post wp) (hw : uWs y bytes maxL retc n) {host : String} (hlk : va_Nw (.methodLinkNest own index y host) s) {st0 : List Value} (hst : st0 = As.reverse ++ rest) (hn : As.length = n) (hrm : rm.frames + 1 ≤ R.frames ∧ 8 + (maxL + 11) + rm.locals ≤ R.locals) (hro : (rest.map fun v => v.category).sum ≤ 8) (hcs : cells + rm.cells ≤ R.cells ∧ slots + rm.slots ≤ R.slots) (hdg : decode cc pc = .ok (.invokestatic index, 3))
    (kk : ∀ (r : Int32) (u : S) (H1 : Heap) (locs1 : List Loc), post r u → va_P D vwCl (wr ++ wp u) H1 → va_D A (wr ++ wp u) → va_S A s.heap H1 locs1 → W p l e R s m args below meth c H1 locs1 (cells + rm.cells) (slots + rm.slots) Q (F0 m (pc + 3) ls (.int r :: rest))) : W p l e R s m args below meth c H locs cells slots Q (F0 m pc ls st0) := by
  obtain ⟨hx, hb, hr, hml, hown, hts, hlocks, hnm, hK, hA, hN, hZ⟩ := B
  have hPc : va_P D vwCl wc H := uSub hP isC hC
  obtain ⟨n1, n2, n3⟩ := uNd hnd
  have hDc : va_D A wc := hD.sub isC n1 hC
  subst hst
  exact uAi hP hD hS hA isC isR hC hR n2 n3 (va_runSN (As := As) (rest := rest) ⟨hx, hb, hml, hown, hts⟩ hM ⟨va_cnB n hts (uGoodC hw.1) rfl rfl rfl hlk (hts _ hw.2.1) hw.2.2.2 hrm, hts _ hw.2.2.1, trivial⟩ ⟨uBlind, uPre hK hN hZ hS (va_free (wc := wc) hD hS hA isC hC) hPc hDc⟩ rfl hn hls rfl (lv_room hro) hdg hcs) kk
theorem uN0 (B : uB p s m args meth c D K own nm cc nL ret A) : va_Nw (.methodLinkNest RX11 36 yX3_init RX11) s := B.2.2.2.2.2.2.2.2.2.2.1.1
theorem uN1 (B : uB p s m args meth c D K own nm cc nL ret A) : va_Nw (.methodLinkNest RX11 52 yX6_init RX11) s := B.2.2.2.2.2.2.2.2.2.2.1.2.1
theorem uN2 (B : uB p s m args meth c D K own nm cc nL ret A) : va_Nw (.methodLinkNest RX5 45 yX7_init RX11) s := B.2.2.2.2.2.2.2.2.2.2.1.2.2.1
theorem uN3 (B : uB p s m args meth c D K own nm cc nL ret A) : va_Nw (.methodLinkNest RX11 75 yX7_init RX11) s := B.2.2.2.2.2.2.2.2.2.2.1.2.2.2.1
theorem uN4 (B : uB p s m args meth c D K own nm cc nL ret A) : va_Nw (.methodLinkNest RX9 54 yX11_isSeason RX11) s := B.2.2.2.2.2.2.2.2.2.2.1.2.2.2.2.1
theorem uSval {index : Nat} (B : uB p s m args meth c D K own nm cc nL ret A) (hS : va_S A s.heap H locs) (hlink : Cond.fieldLink own index "java/lang/String" "value" "[B" ∈ uTb) (hdg : decode cc pc = .ok (.getfield index, 3)) (kk : W p l e R s m args below meth c H locs cells slots Q (F0 m (pc + 3) ls (.ref (K 11) :: rest))) : W p l e R s m args below meth c H locs cells slots Q (F0 m pc ls (.ref (K 10) :: rest)) := by
  obtain ⟨hx, hb, hr, hml, hown, hts, hlocks, hnm, hK, hA, hN, hZ⟩ := B
  exact vk_getf hx hb (hZ.1.1 0 (by decide)).2.2.1 hS hown (hts _ hlink) (fun _ h => h) hdg kk
theorem uScod {index : Nat} (B : uB p s m args meth c D K own nm cc nL ret A) (hS : va_S A s.heap H locs) (hlink : Cond.fieldLink own index "java/lang/String" "coder" "B" ∈ uTb) (hdg : decode cc pc = .ok (.getfield index, 3)) (kk : W p l e R s m args below meth c H locs cells slots Q (F0 m (pc + 3) ls (.int 0 :: rest))) : W p l e R s m args below meth c H locs cells slots Q (F0 m pc ls (.ref (K 10) :: rest)) := by
  obtain ⟨hx, hb, hr, hml, hown, hts, hlocks, hnm, hK, hA, hN, hZ⟩ := B
  exact vk_getf hx hb (hZ.1.1 0 (by decide)).2.1 hS hown (hts _ hlink) (fun _ h => h) hdg kk
theorem uScom {index : Nat} (B : uB p s m args meth c D K own nm cc nL ret A) (hS : va_S A s.heap H locs) (hlink : Cond.fieldLink own index "java/lang/String" "COMPACT_STRINGS" "Z" ∈ uTb) (hdg : decode cc pc = .ok (.getstatic index, 3)) (kk : W p l e R s m args below meth c H locs cells slots Q (F0 m (pc + 3) ls (.int 1 :: rest))) : W p l e R s m args below meth c H locs cells slots Q (F0 m pc ls rest) := by
  obtain ⟨hx, hb, hr, hml, hown, hts, hlocks, hnm, hK, hA, hN, hZ⟩ := B
  exact va_gets hx hb hZ.2.2.2.1 hS hown (hts _ hlink) (fun _ h => h) hdg kk
theorem uSfmt {index : Nat} (B : uB p s m args meth c D K own nm cc nL ret A) (hS : va_S A s.heap H locs) (hlink : Cond.fieldLink own index "jdk/internal/util/Preconditions" "SIOOBE_FORMATTER" "Ljava/util/function/BiFunction;" ∈ uTb) (hdg : decode cc pc = .ok (.getstatic index, 3)) (k1 : W p l e R s m args below meth c H locs cells slots Q (F0 m (pc + 3) ls (.null :: rest))) (k2 : ∀ t : Nat, W p l e R s m args below meth c H locs cells slots Q (F0 m (pc + 3) ls (.ref t :: rest))) : W p l e R s m args below meth c H locs cells slots Q (F0 m pc ls rest) := by
  obtain ⟨hx, hb, hr, hml, hown, hts, hlocks, hnm, hK, hA, hN, hZ⟩ := B
  rcases hZ.2.2.2.2 with h | ⟨t, h⟩
  · exact va_gets hx hb h hS hown (hts _ hlink) (fun _ h => h) hdg k1
  · exact va_gets hx hb h hS hown (hts _ hlink) (fun _ h => h) hdg (k2 t)
theorem uSlen (B : uB p s m args meth c D K own nm cc nL ret A) (hS : va_S A s.heap H locs) (hdg : decode cc pc = .ok (.arraylength, 1)) (kk : W p l e R s m args below meth c H locs cells slots Q (F0 m (pc + 1) ls (.int 65 :: rest))) : W p l e R s m args below meth c H locs cells slots Q (F0 m pc ls (.ref (K 11) :: rest)) := by
  obtain ⟨hx, hb, hr, hml, hown, hts, hlocks, hnm, hK, hA, hN, hZ⟩ := B
  exact va_tlen hx hb (hZ.1.1 0 (by decide)).2.2.2 hS rfl hdg kk
theorem uSbyt {i : Int32} {j : Nat} (B : uB p s m args meth c D K own nm cc nL ret A) (hS : va_S A s.heap H locs) (hin : ¬ (i < 0 ∨ 65 ≤ i.toNatClampNeg)) (hj : i.toNatClampNeg = j) (hdg : decode cc pc = .ok (.baload, 1)) (kk : W p l e R s m args below meth c H locs cells slots Q (F0 m (pc + 1) ls (.int (uByt.getD j 0) :: rest))) : W p l e R s m args below meth c H locs cells slots Q (F0 m pc ls (.int i :: .ref (K 11) :: rest)) := by
  obtain ⟨hx, hb, hr, hml, hown, hts, hlocks, hnm, hK, hA, hN, hZ⟩ := B
  subst hj
  exact va_tb hx hb (hZ.1.1 0 (by decide)).2.2.2 hS hin rfl hdg kk
theorem uSldc10 (B : uB p s m args meth c D K RX10 nm cc nL ret A) (hdg : decode cc pc = .ok (.ldc 45, 2)) (kk : W p l e R s m args below meth c H locs cells slots Q (F0 m (pc + 2) ls (.ref (K 10) :: rest))) : W p l e R s m args below meth c H locs cells slots Q (F0 m pc ls rest) := by
  obtain ⟨hx, hb, hr, hml, hown, hts, hlocks, hnm, hK, hA, hN, hZ⟩ := B
  exact va_ldcS hx hb hown hZ.2.1 hdg kk
theorem uTi {S : Type} {post : Int32 → S → Prop} {wp : S → va_W} {wr : va_W} {y : MethodName} {bytes : ByteArray} {maxL index n : Nat} {retc : Option FieldType} {rm : Room} {As : List Value} {C : String} (wc : va_W) (B : uB p s m args meth c D K own nm cc nL ret A) (hls : ls.size = nL) (hP : va_P D vwCl ws H) (hD : va_D A ws) (hS : va_S A s.heap H locs) (isC isR : List Nat) (hC : isC.map (fun i => ws[i]?) = wc.map some) (hR : isR.map (fun i => ws[i]?) = wr.map some) (hnd : va_nd (isC ++ isR) = true)
    (hM : uMi l y bytes maxL retc rm (.ref (K 10) :: As) D K wc H.size post wp) (hw : uWv y C bytes maxL retc n) (hlk : Cond.methodLink own index y ∈ uTb) (hCs : C = "java/lang/String") {st0 : List Value} (hst : st0 = As.reverse ++ .ref (K 10) :: rest) (hn : As.length = n) (hrm : rm.frames + 1 ≤ R.frames ∧ 8 + (maxL + 11) + rm.locals ≤ R.locals) (hro : (rest.map fun v => v.category).sum ≤ 8) (hcs : cells + rm.cells ≤ R.cells ∧ slots + rm.slots ≤ R.slots) (hdg : decode cc pc = .ok (.invokevirtual index, 3))
    (kk : ∀ (r : Int32) (u : S) (H1 : Heap) (locs1 : List Loc), post r u → va_P D vwCl (wr ++ wp u) H1 → va_D A (wr ++ wp u) → va_S A s.heap H1 locs1 → W p l e R s m args below meth c H1 locs1 (cells + rm.cells) (slots + rm.slots) Q (F0 m (pc + 3) ls (.int r :: rest))) : W p l e R s m args below meth c H locs cells slots Q (F0 m pc ls st0) := by
  obtain ⟨hx, hb, hr, hml, hown, hts, hlocks, hnm, hK, hA, hN, hZ⟩ := B
  have hPc : va_P D vwCl wc H := uSub hP isC hC
  obtain ⟨n1, n2, n3⟩ := uNd hnd
  have hDc : va_D A wc := hD.sub isC n1 hC
  subst hst
  exact uAi hP hD hS hA isC isR hC hR n2 n3 (va_runV (As := As) (rest := rest) ⟨hx, hb, hml, hown, hts⟩ hM (uCW hts hw.1 hw.2.1 hw.2.2.1 hlk hw.2.2.2.1 hw.2.2.2.2.1 hw.2.2.2.2.2 hrm) ⟨uBlind, hCs ▸ vk_recv hZ.1 (i := 0) (by decide) hS, uPre hK hN hZ hS (va_free (wc := wc) hD hS hA isC hC) hPc hDc⟩ rfl hn hls rfl (lv_room hro) hdg hcs) kk
theorem uLdc2 {index : Nat} {v : Int64} (B : uB p s m args meth c D K own nm cc nL ret A) (hconst : Cond.constantLong own index v ∈ uTb) (hdg : decode cc pc = .ok (.ldc2_w index, 3)) (k : W p l e R s m args below meth c H locs cells slots Q (F0 m (pc + 3) ls (.long v :: rest))) : W p l e R s m args below meth c H locs cells slots Q (F0 m pc ls rest) := by
  obtain ⟨hx, hb, hr, hml, hown, hts, hlocks, hnm, hK, hA, hN, hZ⟩ := B
  exact lv_ldc2 hx hb hown (hts _ hconst) hdg k
theorem uLdcw {index : Nat} {v : Int32} (B : uB p s m args meth c D K own nm cc nL ret A) (hconst : Cond.constant own index v ∈ uTb) (hdg : decode cc pc = .ok (.ldc_w index, 3)) (k : W p l e R s m args below meth c H locs cells slots Q (F0 m (pc + 3) ls (.int v :: rest))) : W p l e R s m args below meth c H locs cells slots Q (F0 m pc ls rest) := by
  obtain ⟨hx, hb, hr, hml, hown, hts, hlocks, hnm, hK, hA, hN, hZ⟩ := B
  exact lv_ldcw hx hb hown (hts _ hconst) hdg k
theorem uMax {index : Nat} {x y : Int32} (B : uB p s m args meth c D K own nm cc nL ret A) (hls : ls.size = nL) (hlk : Cond.methodLink own index yJ9_max_7cf53 ∈ uTb) (hframes : 1 ≤ R.frames) (hlocals : (rest.map fun v => v.category).sum + 13 ≤ R.locals) (hc : cells ≤ R.cells) (hs : slots ≤ R.slots) (hdg : decode cc pc = .ok (.invokestatic index, 3)) (kk : W p l e R s m args below meth c H locs cells slots Q (F0 m (pc + 3) ls (.int (if x < y then y else x) :: rest))) : W p l e R s m args below meth c H locs cells slots Q (F0 m pc ls (.int y :: .int x :: rest)) := by
  obtain ⟨hx, hb, hr, hml, hown, hts, hlocks, hnm, hK, hA, hN, hZ⟩ := B
  exact va_mmax hx hb (by rw [hml, hls]) hown (hts _ hlk) (hts _ mst_J9_max_7cf53) (hts _ min_J9) (hts _ mco_J9_max_7cf53) hframes hlocals hc hs hdg kk
theorem uMin {index : Nat} {x y : Int32} (B : uB p s m args meth c D K own nm cc nL ret A) (hls : ls.size = nL) (hlk : Cond.methodLink own index yJ9_min_7cf53 ∈ uTb) (hframes : 1 ≤ R.frames) (hlocals : (rest.map fun v => v.category).sum + 13 ≤ R.locals) (hc : cells ≤ R.cells) (hs : slots ≤ R.slots) (hdg : decode cc pc = .ok (.invokestatic index, 3)) (kk : W p l e R s m args below meth c H locs cells slots Q (F0 m (pc + 3) ls (.int (if y < x then y else x) :: rest))) : W p l e R s m args below meth c H locs cells slots Q (F0 m pc ls (.int y :: .int x :: rest)) := by
  obtain ⟨hx, hb, hr, hml, hown, hts, hlocks, hnm, hK, hA, hN, hZ⟩ := B
  exact va_mmin hx hb (by rw [hml, hls]) hown (hts _ hlk) (hts _ mst_J9_min_7cf53) (hts _ min_J9) (hts _ mco_J9_min_7cf53) hframes hlocals hc hs hdg kk
theorem uAbs {index : Nat} {x : Int32} (B : uB p s m args meth c D K own nm cc nL ret A) (hls : ls.size = nL) (hlk : Cond.methodLink own index yJ9_abs_0f7a4 ∈ uTb) (hframes : 1 ≤ R.frames) (hlocals : (rest.map fun v => v.category).sum + 13 ≤ R.locals) (hc : cells ≤ R.cells) (hs : slots ≤ R.slots) (hdg : decode cc pc = .ok (.invokestatic index, 3)) (kk : W p l e R s m args below meth c H locs cells slots Q (F0 m (pc + 3) ls (.int (if 0 ≤ x then x else 0 - x) :: rest))) : W p l e R s m args below meth c H locs cells slots Q (F0 m pc ls (.int x :: rest)) := by
  obtain ⟨hx, hb, hr, hml, hown, hts, hlocks, hnm, hK, hA, hN, hZ⟩ := B
  exact va_mabs hx hb (by rw [hml, hls]) hown (hts _ hlk) (hts _ mst_J9_abs_0f7a4) (hts _ min_J9) (hts _ mco_J9_abs_0f7a4) hframes hlocals hc hs hdg kk
end UKIT

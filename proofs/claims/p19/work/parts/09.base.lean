/-! own rows: the words of all methods are the law's list; worlds, contracts, calls in one form -/
abbrev uw (y : MethodName) (cc : ByteArray) (n : Nat) (r : Option FieldType) : List Cond := Cond.code y cc n r :: uTb
abbrev uT (K : Nat → ClassId) : List (ClassId × FieldType) := [(K 0, .int), (K 1, .boolean), (K 2, .long), (K 3, .array .int)]
def va_AOA (ty : FieldType) (U : State) : Prop := (Cond.arrayOver (.array ty)).before #[] U = true
theorem va_AOA.use {ty : FieldType} {A : Array Value} {U : State} (h : va_AOA ty U) : (Cond.arrayOver (.array ty)).before A U = true := h
theorem va_AOA.same {ty : FieldType} {u U : State} (hv : u.vm = U.vm) (h : va_AOA ty u) : va_AOA ty U := by
  unfold va_AOA Cond.before Cond.holds at h ⊢
  simp only [Cond.value] at h ⊢
  rw [← hv]
  exact h
theorem va_AOA.moved {ty : FieldType} {u U : State} (hvm : u.vm.Alike U.vm) (h : va_AOA ty u) : va_AOA ty U := by
  unfold va_AOA Cond.before Cond.holds at h ⊢
  simp only [Cond.value, beq_iff_eq] at h ⊢
  rw [hvm.findClass, hvm.findClass]
  cases hc : u.vm.findClass (FieldType.array ty).toString with
  | none => rw [hc] at h; simp at h
  | some comp =>
    rw [hc] at h
    simp only [Option.bind_some, Option.bind_eq_some_iff, Option.map_eq_some_iff] at h ⊢
    obtain ⟨c, hi, k, hk, hb⟩ := h
    obtain ⟨k', hk', he⟩ := hvm.2.2 _ _ hk
    have e1 := va_idx_bare U.vm comp
    have e2 := va_idx_bare u.vm comp
    have e3 : U.vm.bare = u.vm.bare := by first | exact hvm.bare_eq | exact hvm.bare_eq.symm
    rw [e3] at e1
    refine ⟨c, (e1.symm.trans e2).trans hi, k', hk', ?_⟩
    · rw [show k'.kind = k.kind by rw [he]]
      exact hb
def uTx : String := "word like minutes look order twice do pass send to wait stop any "
def uByt : List Int32 := [119, 111, 114, 100, 32, 108, 105, 107, 101, 32, 109, 105, 110, 117, 116, 101, 115, 32, 108, 111, 111, 107, 32, 111, 114, 100, 101, 114, 32, 116, 119, 105, 99, 101, 32, 100, 111, 32, 112, 97, 115, 115, 32, 115, 101, 110, 100, 32, 116, 111, 32, 119, 97, 105, 116, 32, 115, 116, 111, 112, 32, 97, 110, 121, 32]
/-- the text constant (one object for both classes), the statics that its methods read -/
def uZ (K : Nat → ClassId) (A : Nat → Prop) (U : State) (H : Heap) : Prop := vk_S 1 [65] [uByt] (fun _ => K 10) (fun _ => K 11) A U H ∧ vk_R RX10 45 uTx (K 10) U ∧ vk_R RX12 417 uTx (K 10) U ∧ va_Z "java/lang/String" "COMPACT_STRINGS" "Z" (.int 1) A U H ∧ va_Zq "jdk/internal/util/Preconditions" "SIOOBE_FORMATTER" "Ljava/util/function/BiFunction;" A U H
theorem uZ.to {K : Nat → ClassId} {A B : Nat → Prop} {s U : State} {H H1 : Heap} (hW : s.WarmedH U.vm) (hAB : ∀ q, B q → A q) (hq : ∀ a : Nat, a < H.size → ¬ A a → H1[a]? = H[a]?) (h : uZ K A s H) : uZ K B U H1 :=
  ⟨((h.1.kept hq).narrow hAB).moved hW.alike, h.2.1.warm hW, h.2.2.1.warm hW, ((h.2.2.2.1.kept hq).narrow hAB).moved hW.alike, ((h.2.2.2.2.kept hq).narrow hAB).moved hW.alike⟩
theorem uZ.same {K : Nat → ClassId} {A : Nat → Prop} {u U : State} {H : Heap} (hv : U.vm = u.vm) (h : uZ K A u H) : uZ K A U H :=
  ⟨h.1.moved (by rw [hv]; exact Vm.Alike.refl _), h.2.1.same hv, h.2.2.1.same hv, h.2.2.2.1.moved (by rw [hv]; exact Vm.Alike.refl _), h.2.2.2.2.moved (by rw [hv]; exact Vm.Alike.refl _)⟩
def uNs (U : State) : Prop := va_Nw (.methodLinkNest RX11 36 yX3_init RX11) U ∧ va_Nw (.methodLinkNest RX11 52 yX6_init RX11) U ∧ va_Nw (.methodLinkNest RX5 45 yX7_init RX11) U ∧ va_Nw (.methodLinkNest RX11 75 yX7_init RX11) U ∧ va_Nw (.methodLinkNest RX9 54 yX11_isSeason RX11) U ∧ va_AOA .int U
theorem uNs.warm {s U : State} (hW : s.WarmedH U.vm) (h : uNs s) : uNs U := ⟨h.1.warmM hW, h.2.1.warmM hW, h.2.2.1.warmM hW, h.2.2.2.1.warmM hW, h.2.2.2.2.1.warmM hW, h.2.2.2.2.2.moved hW.alike⟩
theorem uNs.same {u U : State} (hv : u.vm = U.vm) (h : uNs u) : uNs U := ⟨h.1.same rfl hv, h.2.1.same rfl hv, h.2.2.1.same rfl hv, h.2.2.2.1.same rfl hv, h.2.2.2.2.1.same rfl hv, h.2.2.2.2.2.same hv⟩
def uP (D : va_G) (K : Nat → ClassId) (ws : va_W) (sz : Nat) (U : State) : Prop := U.heap.size = sz ∧ va_P D vwCl ws U.heap ∧ va_K D vwCl (uT K) U ∧ va_D (fun _ => True) ws ∧ uNs U ∧ uZ K (va_A ws sz) U U.heap
def uQ (D : va_G) (A : Nat → Prop) (w : va_W) (t : State) : Prop := va_P D vwCl w t.heap ∧ va_D A w
/-- all that a body knows of its start -/
def uB (p : Program) (s : State) (m : MethodId) (args : Array Value) (meth : Method) (c : Code) (D : va_G) (K : Nat → ClassId) (own : String) (nm : String) (cc : ByteArray) (nL : Nat) (ret : Option FieldType) (A : Nat → Prop) : Prop :=
  p.tables.exec = Jvm.exec ∧ c.code = cc ∧ meth.sig.returnType = ret ∧ c.maxLocals = nL ∧ s.vm.findClass own = some m.cls ∧ (∀ w ∈ uTb, w.before args s = true) ∧ meth.locks = false ∧ meth.name = nm ∧ va_K D vwCl (uT K) s ∧ (∀ q : Nat, s.heap.size ≤ q → A q) ∧ uNs s ∧ uZ K A s s.heap
theorem uGoodL : GoodIn uTb uTb := fun w h => ⟨h, good_of_word (uTb_good w h)⟩
theorem uGoodC {y : MethodName} {cc : ByteArray} {n : Nat} {r : Option FieldType} (h : Cond.code y cc n r ∈ uTb) : GoodIn uTb (uw y cc n r) := fun w hw => (List.mem_cons.mp hw).elim (fun e => by subst e; exact uGoodL _ h) (fun h2 => uGoodL _ h2)
theorem uBlind {av : List Value} {D : va_G} {K : Nat → ClassId} {ws : va_W} {sz : Nat} : FrameBlind (va_Pc av (uP D K ws sz)) := fun a U g mk q => by
  obtain ⟨q0, q1, qP, qK, qD, qN, qZ⟩ := q
  exact ⟨q0, q1, qP, va_K.moved (u := U) (U := U.calling g mk a) (Vm.Alike.refl U.vm) qK, qD, uNs.same (u := U) (U := U.calling g mk a) rfl qN, uZ.same (u := U) (U := U.calling g mk a) rfl qZ⟩
theorem uNd : ∀ {a b : List Nat}, va_nd (a ++ b) = true → va_nd a = true ∧ va_nd b = true ∧ ∀ i ∈ b, i ∉ a
  | [], b, h => ⟨rfl, h, fun _ _ h2 => absurd h2 List.not_mem_nil⟩
  | x :: a, b, h => by
    simp only [List.cons_append, va_nd, Bool.and_eq_true, decide_eq_true_eq, List.mem_append, not_or] at h
    obtain ⟨⟨h1, h2⟩, h3⟩ := h
    obtain ⟨k1, k2, k3⟩ := uNd h3
    refine ⟨by simp only [va_nd, Bool.and_eq_true, decide_eq_true_eq]; exact ⟨h1, k1⟩, k2, fun i hi hm => ?_⟩
    rcases List.mem_cons.mp hm with e | e
    · exact h2 (e ▸ hi)
    · exact k3 i hi e
theorem uSub {D : va_G} {cl : List vw_C} {ws wc : va_W} {H : Heap} (h : va_P D cl ws H) (is : List Nat) (hs : is.map (fun i => ws[i]?) = wc.map some) : va_P D cl wc H := by
  intro k q hk
  have h1 : (is.map (fun i => ws[i]?))[k]? = some (some q) := by rw [hs, List.getElem?_map, hk]; rfl
  rw [List.getElem?_map] at h1
  cases hi : is[k]? with
  | none => rw [hi] at h1; cases h1
  | some i => rw [hi] at h1; exact h i q (Option.some.inj h1)
theorem fa_lt (a b : Int32) : a < b ↔ a.toInt < b.toInt := Int32.lt_iff_toInt_lt
theorem fa_le (a b : Int32) : a ≤ b ↔ a.toInt ≤ b.toInt := Int32.le_iff_toInt_le
theorem fa_eq (a b : Int32) : a = b ↔ a.toInt = b.toInt := Int32.toInt_inj.symm
theorem uNat {x : Int32} {n : Nat} (h0 : 0 ≤ x.toInt) (h1 : x.toInt < n) (hn : n < 2 ^ 31) : ∃ a : Nat, a < n ∧ x = nI a := by
  have h : vp_in x n := vp_in_iff.mpr ⟨h0, h1⟩
  exact vp_in_of h hn
theorem uBn {v : Int32} (h : v = 0 ∨ v = 1) : vp_nar .boolean v = v := by rcases h with rfl | rfl <;> rfl
theorem uBz {v : Int32} (h : v = 0 ∨ v = 1) : narrow .boolean (.int v) = .int v := by rcases h with rfl | rfl <;> rfl
theorem uBup {f : Nat → Int32} {k : Nat} {v : Int32} (h : ∀ k, f k = 0 ∨ f k = 1) (hv : v = 0 ∨ v = 1) : ∀ j, upd f k v j = 0 ∨ upd f k v j = 1 := by
  intro j
  by_cases e : j = k
  · subst e; rw [pk_us]; exact hv
  · rw [pk_un e]; exact h j
theorem uIn {x : Int32} {n : Nat} (h0 : 0 ≤ x.toInt) (h1 : x.toInt < n) : ¬ (x < 0 ∨ n ≤ x.toNatClampNeg) := vp_in_iff.mpr ⟨h0, h1⟩
theorem uBior {x y : Int32} (h : x = 0 ∨ x = 1) (k : y = 0 ∨ y = 1) : x ||| y = 0 ∨ x ||| y = 1 := by rcases h with rfl | rfl <;> rcases k with rfl | rfl <;> decide
theorem uBiand {x y : Int32} (h : x = 0 ∨ x = 1) (k : y = 0 ∨ y = 1) : x &&& y = 0 ∨ x &&& y = 1 := by rcases h with rfl | rfl <;> rcases k with rfl | rfl <;> decide
theorem uEqz {x y : Int32} (h : x.toInt = y.toInt) : x = y := Int32.toInt_inj.mp h

section UKIT
variable {p : Program} {l : Launch} {e : Env} {R : Room} {s : State} {m : MethodId} {args : Array Value} {below : List Frame} {meth : Method} {c : Code} {H : Heap} {locs : List Loc} {cells slots : Nat} {Q : State → Prop}
variable {cc : ByteArray} {pc : Nat} {ls : Array Slot} {rest : List Value} {A : Nat → Prop} {a : Nat} {H0 : Heap} {D : va_G} {K : Nat → ClassId} {own nm : String} {nL : Nat} {ret : Option FieldType} {ws : va_W}
theorem uCI {y : MethodName} {bytes : ByteArray} {maxL index n : Nat} {rm : Room} (ht : ∀ w ∈ uTb, w.before args s = true) (hc : Cond.code y bytes maxL none ∈ uTb) (hini : Cond.initialized y.cls ∈ uTb) (hl : Cond.methodLink own index y ∈ uTb) (hin : Cond.instanceMethod y ∈ uTb) (hnm : y.name = "<init>")
    (hd : y.cls ≠ "java/lang/invoke/MethodHandle" ∧ y.cls ≠ "java/lang/invoke/VarHandle" ∧ (parseMethodDescriptor y.desc).map (fun d => d.parameters.length) = some n) (hR : rm.frames + 1 ≤ R.frames ∧ 8 + (maxL + 11) + rm.locals ≤ R.locals) : CallB R s args own index y bytes maxL none (uw y bytes maxL none) rm rm.cells rm.slots n ∧ y.name = "<init>" ∧ (Cond.instanceMethod y).before args s = true :=
  ⟨callB_of n ht (uGoodC hc) rfl rfl rfl (ht _ hini) (ht _ hl) hd hR, hnm, ht _ hin⟩

def uQi {S : Type} (D : va_G) (post : Int32 → S → Prop) (wp : S → va_W) (A : Nat → Prop) : Array Value → State → Outcome → State → Prop := va_Qi post (fun u => uQ D A (wp u)) A
def uQl {S : Type} (D : va_G) (post : Int64 → S → Prop) (wp : S → va_W) (A : Nat → Prop) : Array Value → State → Outcome → State → Prop := va_Ql post (fun u => uQ D A (wp u)) A
def uQv {S : Type} (D : va_G) (post : S → Prop) (wp : S → va_W) (A : Nat → Prop) : Array Value → State → Outcome → State → Prop := va_Qv post (fun u => uQ D A (wp u)) A
def uQr {S : Type} (D : va_G) (post : Nat → S → Prop) (wp : S → va_W) (A : Nat → Prop) : Array Value → State → Outcome → State → Prop := va_Qr (S := S × Nat) (fun u => post u.2 u.1) (fun u a t => u.2 = a ∧ uQ D A (wp u.1) t) A
abbrev uMi {S : Type} (l : Launch) (y : MethodName) (cc : ByteArray) (nL : Nat) (ret : Option FieldType) (rm : Room) (av : List Value) (D : va_G) (K : Nat → ClassId) (ws : va_W) (sz : Nat) (post : Int32 → S → Prop) (wp : S → va_W) : Prop := Met l y (uw y cc nL ret) rm (va_Pc av (uP D K ws sz)) (uQi D post wp (va_A ws sz)) rm.cells rm.slots (va_A ws sz)
abbrev uMl {S : Type} (l : Launch) (y : MethodName) (cc : ByteArray) (nL : Nat) (ret : Option FieldType) (rm : Room) (av : List Value) (D : va_G) (K : Nat → ClassId) (ws : va_W) (sz : Nat) (post : Int64 → S → Prop) (wp : S → va_W) : Prop := Met l y (uw y cc nL ret) rm (va_Pc av (uP D K ws sz)) (uQl D post wp (va_A ws sz)) rm.cells rm.slots (va_A ws sz)

end UKIT

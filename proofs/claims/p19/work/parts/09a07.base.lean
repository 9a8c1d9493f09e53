section UKIT
variable {p : Program} {l : Launch} {e : Env} {R : Room} {s : State} {m : MethodId} {args : Array Value} {below : List Frame} {meth : Method} {c : Code} {H : Heap} {locs : List Loc} {cells slots : Nat} {Q : State → Prop}
variable {cc : ByteArray} {pc : Nat} {ls : Array Slot} {rest : List Value} {A : Nat → Prop} {a : Nat} {H0 : Heap} {D : va_G} {K : Nat → ClassId} {own nm : String} {nL : Nat} {ret : Option FieldType} {ws : va_W}
theorem uN0 (B : uB p s m args meth c D K own nm cc nL ret A) : va_Nw (.methodLinkNest RX11 36 yX3_init RX11) s := B.2.2.2.2.2.2.2.2.2.2.1.1
theorem uN1 (B : uB p s m args meth c D K own nm cc nL ret A) : va_Nw (.methodLinkNest RX11 52 yX6_init RX11) s := B.2.2.2.2.2.2.2.2.2.2.1.2.1
theorem uN2 (B : uB p s m args meth c D K own nm cc nL ret A) : va_Nw (.methodLinkNest RX5 45 yX7_init RX11) s := B.2.2.2.2.2.2.2.2.2.2.1.2.2.1
theorem uN3 (B : uB p s m args meth c D K own nm cc nL ret A) : va_Nw (.methodLinkNest RX11 75 yX7_init RX11) s := B.2.2.2.2.2.2.2.2.2.2.1.2.2.2.1
theorem uN4 (B : uB p s m args meth c D K own nm cc nL ret A) : va_Nw (.methodLinkNest RX9 54 yX11_isSeason RX11) s := B.2.2.2.2.2.2.2.2.2.2.1.2.2.2.2.1
theorem uSval {index : Nat} (B : uB p s m args meth c D K own nm cc nL ret A) (hS : va_S A s.heap H locs) (hlink : Cond.fieldLink own index "java/lang/String" "value" "[B" ∈ uTb) (hdg : decode cc pc = .ok (.getfield index, 3)) (kk : W p l e R s m args below meth c H locs cells slots Q (F0 m (pc + 3) ls (.ref (K 11) :: rest))) : W p l e R s m args below meth c H locs cells slots Q (F0 m pc ls (.ref (K 10) :: rest)) := by
  obtain ⟨hx, hb, hr, hml, hown, hts, hlocks, hnm, hK, hA, hN, hZ⟩ := B
  exact vk_getf hx hb (hZ.1.1 0 (by decide)).2.2.1 hS hown (hts _ hlink) (fun _ h => h) hdg kk
theorem uScod {index : Nat} (B : uB p s m args meth c D K own nm cc nL ret A) (hS : va_S A s.heap H locs) (hlink : Cond.fieldLink own index "java/lang/String" "coder" "B" ∈ uTb) (hdg : decode cc pc = .ok (.getfield index, 3)) (kk : W p l e R s m args below meth c H locs cells slots Q (F0 m (pc + 3) ls (.int 0 :: rest))) : W p l e R s m args below meth c H locs cells slots Q (F0 m pc ls (.ref (K 10) :: rest)) := by
  obtain ⟨hx, hb, hr, hml, hown, hts, hlocks, hnm, hK, hA, hN, hZ⟩ := B
  exact vk_getf hx hb (hZ.1.1 0 (by decide)).2.1 hS hown (hts _ hlink) (fun _ h => h) hdg kk

end UKIT

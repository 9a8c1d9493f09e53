section UKIT
variable {p : Program} {l : Launch} {e : Env} {R : Room} {s : State} {m : MethodId} {args : Array Value} {below : List Frame} {meth : Method} {c : Code} {H : Heap} {locs : List Loc} {cells slots : Nat} {Q : State → Prop}
variable {cc : ByteArray} {pc : Nat} {ls : Array Slot} {rest : List Value} {A : Nat → Prop} {a : Nat} {H0 : Heap} {D : va_G} {K : Nat → ClassId} {own nm : String} {nL : Nat} {ret : Option FieldType} {ws : va_W}
abbrev uMv {S : Type} (l : Launch) (y : MethodName) (cc : ByteArray) (nL : Nat) (rm : Room) (av : List Value) (D : va_G) (K : Nat → ClassId) (ws : va_W) (sz : Nat) (post : S → Prop) (wp : S → va_W) : Prop := Met l y (uw y cc nL none) rm (va_Pc av (uP D K ws sz)) (uQv D post wp (va_A ws sz)) rm.cells rm.slots (va_A ws sz)
abbrev uMr {S : Type} (l : Launch) (y : MethodName) (cc : ByteArray) (nL : Nat) (ret : Option FieldType) (rm : Room) (av : List Value) (D : va_G) (K : Nat → ClassId) (ws : va_W) (sz : Nat) (post : Nat → S → Prop) (wp : S → va_W) : Prop := Met l y (uw y cc nL ret) rm (va_Pc av (uP D K ws sz)) (uQr D post wp (va_A ws sz)) rm.cells rm.slots (va_A ws sz)
-- ends
theorem uRi {S : Type} {post : Int32 → S → Prop} {wp : S → va_W} {v : Int32} (u : S) (B : uB p s m args meth c D K own nm cc nL (some .int) A) (hpost : post v u) (hP : va_P D vwCl (wp u) H) (hD : va_D A (wp u)) (hS : va_S A s.heap H locs) (hdg : decode cc pc = .ok (.ireturn, 1)) : W p l e R s m args below meth c H locs cells slots (MQ below (uQi D post wp A) args s cells slots A) (F0 m pc ls [.int v]) := by
  obtain ⟨hx, hb, hr, hml, hown, hts, hlocks, hnm, hK, hA, hN, hZ⟩ := B
  exact W.iret (v := v) hx hb hr (fun t ht hW => ⟨⟨v, u, rfl, hpost, by rw [ht]; exact hP, hD⟩, hS.F ht⟩) hS.2.2 hdg
theorem uRz {S : Type} {post : Int32 → S → Prop} {wp : S → va_W} {v : Int32} {ty : FieldType} (u : S) (B : uB p s m args meth c D K own nm cc nL (some ty) A) (hn : narrow ty (.int v) = .int v) (hpost : post v u) (hP : va_P D vwCl (wp u) H) (hD : va_D A (wp u)) (hS : va_S A s.heap H locs) (hdg : decode cc pc = .ok (.ireturn, 1)) : W p l e R s m args below meth c H locs cells slots (MQ below (uQi D post wp A) args s cells slots A) (F0 m pc ls [.int v]) := by
  obtain ⟨hx, hb, hr, hml, hown, hts, hlocks, hnm, hK, hA, hN, hZ⟩ := B
  exact W.zret (v := v) hx hb hr hn (fun t ht hW => ⟨⟨v, u, rfl, hpost, by rw [ht]; exact hP, hD⟩, hS.F ht⟩) hS.2.2 hdg
theorem uRl {S : Type} {post : Int64 → S → Prop} {wp : S → va_W} {v : Int64} (u : S) (B : uB p s m args meth c D K own nm cc nL (some .long) A) (hpost : post v u) (hP : va_P D vwCl (wp u) H) (hD : va_D A (wp u)) (hS : va_S A s.heap H locs) (hdg : decode cc pc = .ok (.lreturn, 1)) : W p l e R s m args below meth c H locs cells slots (MQ below (uQl D post wp A) args s cells slots A) (F0 m pc ls [.long v]) := by
  obtain ⟨hx, hb, hr, hml, hown, hts, hlocks, hnm, hK, hA, hN, hZ⟩ := B
  exact W.lret (v := v) hx hb hr (fun t ht hW => ⟨⟨v, u, rfl, hpost, by rw [ht]; exact hP, hD⟩, hS.F ht⟩) hS.2.2 hdg
theorem uRv {S : Type} {post : S → Prop} {wp : S → va_W} (u : S) (B : uB p s m args meth c D K own nm cc nL none A) (hpost : post u) (hP : va_P D vwCl (wp u) H) (hD : va_D A (wp u)) (hS : va_S A s.heap H locs) (hdg : decode cc pc = .ok (.return_, 1)) : W p l e R s m args below meth c H locs cells slots (MQ below (uQv D post wp A) args s cells slots A) (F0 m pc ls []) := by
  obtain ⟨hx, hb, hr, hml, hown, hts, hlocks, hnm, hK, hA, hN, hZ⟩ := B
  exact W.vret hx hb hr (fun t ht hW => ⟨⟨u, rfl, hpost, by rw [ht]; exact hP, hD⟩, hS.F ht⟩) hS.2.2 hdg
theorem uRr {S : Type} {post : Nat → S → Prop} {wp : S → va_W} {v : Nat} {n : String} (u : S) (B : uB p s m args meth c D K own nm cc nL (some (.object n)) A) (hpost : post v u) (hP : va_P D vwCl (wp u) H) (hD : va_D A (wp u)) (hS : va_S A s.heap H locs) (hdg : decode cc pc = .ok (.areturn, 1)) : W p l e R s m args below meth c H locs cells slots (MQ below (uQr D post wp A) args s cells slots A) (F0 m pc ls [.ref v]) := by
  obtain ⟨hx, hb, hr, hml, hown, hts, hlocks, hnm, hK, hA, hN, hZ⟩ := B
  exact W.aret (v := .ref v) hx hb hr (Or.inl ⟨n, rfl⟩) (Or.inr ⟨v, rfl⟩) (fun t ht hW => ⟨⟨(u, v), v, rfl, hpost, rfl, by rw [ht]; exact hP, hD⟩, hS.F ht⟩) hS.2.2 hdg
-- behind a call

end UKIT

section UKIT
variable {p : Program} {l : Launch} {e : Env} {R : Room} {s : State} {m : MethodId} {args : Array Value} {below : List Frame} {meth : Method} {c : Code} {H : Heap} {locs : List Loc} {cells slots : Nat} {Q : State → Prop}
variable {cc : ByteArray} {pc : Nat} {ls : Array Slot} {rest : List Value} {A : Nat → Prop} {a : Nat} {H0 : Heap} {D : va_G} {K : Nat → ClassId} {own nm : String} {nL : Nat} {ret : Option FieldType} {ws : va_W}
theorem uLdcw {index : Nat} {v : Int32} (B : uB p s m args meth c D K own nm cc nL ret A) (hconst : Cond.constant own index v ∈ uTb) (hdg : decode cc pc = .ok (.ldc_w index, 3)) (k : W p l e R s m args below meth c H locs cells slots Q (F0 m (pc + 3) ls (.int v :: rest))) : W p l e R s m args below meth c H locs cells slots Q (F0 m pc ls rest) := by
  obtain ⟨hx, hb, hr, hml, hown, hts, hlocks, hnm, hK, hA, hN, hZ⟩ := B
  exact lv_ldcw hx hb hown (hts _ hconst) hdg k
theorem uMax {index : Nat} {x y : Int32} (B : uB p s m args meth c D K own nm cc nL ret A) (hls : ls.size = nL) (hlk : Cond.methodLink own index yJ9_max_7cf53 ∈ uTb) (hframes : 1 ≤ R.frames) (hlocals : (rest.map fun v => v.category).sum + 13 ≤ R.locals) (hc : cells ≤ R.cells) (hs : slots ≤ R.slots) (hdg : decode cc pc = .ok (.invokestatic index, 3)) (kk : W p l e R s m args below meth c H locs cells slots Q (F0 m (pc + 3) ls (.int (if x < y then y else x) :: rest))) : W p l e R s m args below meth c H locs cells slots Q (F0 m pc ls (.int y :: .int x :: rest)) := by
  obtain ⟨hx, hb, hr, hml, hown, hts, hlocks, hnm, hK, hA, hN, hZ⟩ := B
  exact va_mmax hx hb (by rw [hml, hls]) hown (hts _ hlk) (hts _ mst_J9_max_7cf53) (hts _ min_J9) (hts _ mco_J9_max_7cf53) hframes hlocals hc hs hdg kk
theorem uMin {index : Nat} {x y : Int32} (B : uB p s m args meth c D K own nm cc nL ret A) (hls : ls.size = nL) (hlk : Cond.methodLink own index yJ9_min_7cf53 ∈ uTb) (hframes : 1 ≤ R.frames) (hlocals : (rest.map fun v => v.category).sum + 13 ≤ R.locals) (hc : cells ≤ R.cells) (hs : slots ≤ R.slots) (hdg : decode cc pc = .ok (.invokestatic index, 3)) (kk : W p l e R s m args below meth c H locs cells slots Q (F0 m (pc + 3) ls (.int (if y < x then y else x) :: rest))) : W p l e R s m args below meth c H locs cells slots Q (F0 m pc ls (.int y :: .int x :: rest)) := by
  obtain ⟨hx, hb, hr, hml, hown, hts, hlocks, hnm, hK, hA, hN, hZ⟩ := B
  exact va_mmin hx hb (by rw [hml, hls]) hown (hts _ hlk) (hts _ mst_J9_min_7cf53) (hts _ min_J9) (hts _ mco_J9_min_7cf53) hframes hlocals hc hs hdg kk
theorem uAbs {index : Nat} {x : Int32} (B : uB p s m args meth c D K own nm cc nL ret A) (hls : ls.size = nL) (hlk : Cond.methodLink own index yJ9_abs_0f7a4 ∈ uTb) (hframes : 1 ≤ R.frames) (hlocals : (rest.map fun v => v.category).sum + 13 ≤ R.locals) (hc : cells ≤ R.cells) (hs : slots ≤ R.slots) (hdg : decode cc pc = .ok (.invokestatic index, 3)) (kk : W p l e R s m args below meth c H locs cells slots Q (F0 m (pc + 3) ls (.int (if 0 ≤ x then x else 0 - x) :: rest))) : W p l e R s m args below meth c H locs cells slots Q (F0 m pc ls (.int x :: rest)) := by
  obtain ⟨hx, hb, hr, hml, hown, hts, hlocks, hnm, hK, hA, hN, hZ⟩ := B
  exact va_mabs hx hb (by rw [hml, hls]) hown (hts _ hlk) (hts _ mst_J9_abs_0f7a4) (hts _ min_J9) (hts _ mco_J9_abs_0f7a4) hframes hlocals hc hs hdg kk

end UKIT

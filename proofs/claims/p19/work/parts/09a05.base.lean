section UKIT
variable {p : Program} {l : Launch} {e : Env} {R : Room} {s : State} {m : MethodId} {args : Array Value} {below : List Frame} {meth : Method} {c : Code} {H : Heap} {locs : List Loc} {cells slots : Nat} {Q : State → Prop}
variable {cc : ByteArray} {pc : Nat} {ls : Array Slot} {rest : List Value} {A : Nat → Prop} {a : Nat} {H0 : Heap} {D : va_G} {K : Nat → ClassId} {own nm : String} {nL : Nat} {ret : Option FieldType} {ws : va_W}
theorem uPutF {ref C : String} {T : u_T} {N ci index : Nat} {ws' : va_W} (B : uB p s m args meth c D K own "<init>" cc nL ret A) (hin : ∀ w ∈ u_ws C T N, w ∈ uTb) {ty0 : Nat → FieldType} (hty : ∀ k, k < N → parseFieldDescriptor (T k).2.2.1 = some (ty0 k)) (hnms : ∀ a, a < N → ∀ b, b < N → a ≠ b → (T a).2.1 ≠ (T b).2.1) (hP : va_P D vwCl ws H) (hD : va_D A ws) (hS : va_S A H0 H locs) (q0 : Nat) {fs : List Value} (he : ws[q0]? = some (a, .inr (ci, fs))) (hc : vwCl[ci]? = some (C, T, N)) (k : Nat) (hk : Nat.ble (k + 1) N = true) (hlink : Cond.fieldLink own index ref (T k).2.1 (T k).2.2.1 ∈ uTb) (href : (T k).1 = ref) (hown2 : ref = own) (hfin : (T k).2.2.2 = true) {v : Value} (hn : narrow (ty0 k) v = v) (hfit : fits (ty0 k) v = true) (hl : Nat.ble (k + 1) fs.length = true) (hw : ws.set q0 (a, .inr (ci, fs.set k v)) = ws') (hdg : decode cc pc = .ok (.putfield index, 3)) (kk : ∀ (H1 : Heap) (locs1 : List Loc), va_P D vwCl ws' H1 → va_D A ws' → va_S A H0 H1 locs1 → W p l e R s m args below meth c H1 locs1 cells slots Q (F0 m (pc + 3) ls rest)) : W p l e R s m args below meth c H locs cells slots Q (F0 m pc ls (v :: .ref a :: rest)) := by
  obtain ⟨hx, hb, hr, hml, hown, hts, hlocks, hnm, hK, hA, hN, hZ⟩ := B
  subst hw
  exact va_putF hx hb hts hin ty0 hty hnms hown hK hP hD hS q0 he hc k (Nat.le_of_ble_eq_true hk) (hts _ hlink) (fun x h => by rw [← href]; exact h) hfin hnm (by rw [href, hown2]) (hty k (Nat.le_of_ble_eq_true hk)) hn hfit (Nat.le_of_ble_eq_true hl) hdg kk
-- arrays of ints, booleans, longs
theorem uIald {n : Nat} {f : Nat → Int32} {i : Int32} {j : Nat} (B : uB p s m args meth c D K own nm cc nL ret A) (hP : va_P D vwCl ws H) (q0 : Nat) (ha : ws[q0]? = some (a, .inl (K 0, n, .inl f))) (hin : ¬ (i < 0 ∨ n ≤ i.toNatClampNeg)) (hj : i.toNatClampNeg = j) (hdg : decode cc pc = .ok (.iaload, 1)) (kk : W p l e R s m args below meth c H locs cells slots Q (F0 m (pc + 1) ls (.int (f j) :: rest))) : W p l e R s m args below meth c H locs cells slots Q (F0 m pc ls (.int i :: .ref a :: rest)) := by
  obtain ⟨hx, hb, hr, hml, hown, hts, hlocks, hnm, hK, hA, hN, hZ⟩ := B
  subst hj
  exact va_iald hx hb hK hP q0 0 ha rfl hin hdg kk
theorem uZald {n : Nat} {f : Nat → Int32} {i : Int32} {j : Nat} (B : uB p s m args meth c D K own nm cc nL ret A) (hP : va_P D vwCl ws H) (q0 : Nat) (ha : ws[q0]? = some (a, .inl (K 1, n, .inl f))) (hin : ¬ (i < 0 ∨ n ≤ i.toNatClampNeg)) (hj : i.toNatClampNeg = j) (hdg : decode cc pc = .ok (.baload, 1)) (kk : W p l e R s m args below meth c H locs cells slots Q (F0 m (pc + 1) ls (.int (f j) :: rest))) : W p l e R s m args below meth c H locs cells slots Q (F0 m pc ls (.int i :: .ref a :: rest)) := by
  obtain ⟨hx, hb, hr, hml, hown, hts, hlocks, hnm, hK, hA, hN, hZ⟩ := B
  subst hj
  exact va_zald hx hb hK hP q0 1 ha rfl hin hdg kk
theorem uLald {n : Nat} {f : Nat → Int64} {i : Int32} {j : Nat} (B : uB p s m args meth c D K own nm cc nL ret A) (hP : va_P D vwCl ws H) (q0 : Nat) (ha : ws[q0]? = some (a, .inl (K 2, n, .inr (.inl f)))) (hin : ¬ (i < 0 ∨ n ≤ i.toNatClampNeg)) (hj : i.toNatClampNeg = j) (hdg : decode cc pc = .ok (.laload, 1)) (kk : W p l e R s m args below meth c H locs cells slots Q (F0 m (pc + 1) ls (.long (f j) :: rest))) : W p l e R s m args below meth c H locs cells slots Q (F0 m pc ls (.int i :: .ref a :: rest)) := by
  obtain ⟨hx, hb, hr, hml, hown, hts, hlocks, hnm, hK, hA, hN, hZ⟩ := B
  subst hj
  exact va_lald hx hb hK hP q0 2 ha rfl hin hdg kk
theorem uIast {n : Nat} {f : Nat → Int32} {i x : Int32} {j : Nat} {ws' : va_W} (B : uB p s m args meth c D K own nm cc nL ret A) (hP : va_P D vwCl ws H) (hD : va_D A ws) (hS : va_S A H0 H locs) (q0 : Nat) (ha : ws[q0]? = some (a, .inl (K 0, n, .inl f))) (hin : ¬ (i < 0 ∨ n ≤ i.toNatClampNeg)) (hj : i.toNatClampNeg = j) (hw : ws.set q0 (a, .inl (K 0, n, .inl (upd f j x))) = ws') (hdg : decode cc pc = .ok (.iastore, 1)) (kk : ∀ (H1 : Heap) (locs1 : List Loc), va_P D vwCl ws' H1 → va_D A ws' → va_S A H0 H1 locs1 → W p l e R s m args below meth c H1 locs1 cells slots Q (F0 m (pc + 1) ls rest)) : W p l e R s m args below meth c H locs cells slots Q (F0 m pc ls (.int x :: .int i :: .ref a :: rest)) := by
  obtain ⟨hx, hb, hr, hml, hown, hts, hlocks, hnm, hK, hA, hN, hZ⟩ := B
  subst hj
  subst hw
  exact va_iast hx hb hK hP hD hS q0 0 ha rfl hin hdg kk
theorem uZast {n : Nat} {f : Nat → Int32} {i x : Int32} {j : Nat} {ws' : va_W} (B : uB p s m args meth c D K own nm cc nL ret A) (hP : va_P D vwCl ws H) (hD : va_D A ws) (hS : va_S A H0 H locs) (q0 : Nat) (ha : ws[q0]? = some (a, .inl (K 1, n, .inl f))) (hin : ¬ (i < 0 ∨ n ≤ i.toNatClampNeg)) (hj : i.toNatClampNeg = j) (hb01 : vp_nar .boolean x = x) (hw : ws.set q0 (a, .inl (K 1, n, .inl (upd f j x))) = ws') (hdg : decode cc pc = .ok (.bastore, 1)) (kk : ∀ (H1 : Heap) (locs1 : List Loc), va_P D vwCl ws' H1 → va_D A ws' → va_S A H0 H1 locs1 → W p l e R s m args below meth c H1 locs1 cells slots Q (F0 m (pc + 1) ls rest)) : W p l e R s m args below meth c H locs cells slots Q (F0 m pc ls (.int x :: .int i :: .ref a :: rest)) := by
  obtain ⟨hx, hb, hr, hml, hown, hts, hlocks, hnm, hK, hA, hN, hZ⟩ := B
  subst hj
  subst hw
  refine va_zast hx hb hK hP hD hS q0 1 ha rfl hin hdg (fun H1 locs1 h1 h2 h3 => ?_)
  rw [hb01] at h1 h2
  exact kk H1 locs1 h1 h2 h3
theorem uLast {n : Nat} {f : Nat → Int64} {i : Int32} {x : Int64} {j : Nat} {ws' : va_W} (B : uB p s m args meth c D K own nm cc nL ret A) (hP : va_P D vwCl ws H) (hD : va_D A ws) (hS : va_S A H0 H locs) (q0 : Nat) (ha : ws[q0]? = some (a, .inl (K 2, n, .inr (.inl f)))) (hin : ¬ (i < 0 ∨ n ≤ i.toNatClampNeg)) (hj : i.toNatClampNeg = j) (hw : ws.set q0 (a, .inl (K 2, n, .inr (.inl (vp_updL f j x)))) = ws') (hdg : decode cc pc = .ok (.lastore, 1)) (kk : ∀ (H1 : Heap) (locs1 : List Loc), va_P D vwCl ws' H1 → va_D A ws' → va_S A H0 H1 locs1 → W p l e R s m args below meth c H1 locs1 cells slots Q (F0 m (pc + 1) ls rest)) : W p l e R s m args below meth c H locs cells slots Q (F0 m pc ls (.long x :: .int i :: .ref a :: rest)) := by
  obtain ⟨hx, hb, hr, hml, hown, hts, hlocks, hnm, hK, hA, hN, hZ⟩ := B
  subst hj
  subst hw
  exact va_last hx hb hK hP hD hS q0 2 ha rfl hin hdg kk

end UKIT

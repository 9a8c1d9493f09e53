set_option maxHeartbeats 40000000 in
set_option maxRecDepth 100000 in
/-- THE LAW, from its entry -/
theorem whole_start {p : Program} {e : Env} {s : State} {m : MethodId} {below : List Frame} {meth : Method} {c : Code} (l : Launch) {b L : Nat} {xs : Nat → Int32} (hL : L ≤ 7) (C0 : lw_At p s m meth c b L xs) : W p l e room_1 s m #[Value.ref b] below meth c s.heap [] 0 0 (lw_Z below #[Value.ref b] s) (entryFrame m ([Value.ref b] : List Value).toArray 4) := by
  obtain ⟨hx, hb, hr, hml, hown, hts0, hX, hbl, hlocks, hgv⟩ := id C0
  obtain ⟨D, K, B⟩ := u_start C0
  have hbA : ¬ (fun q : Nat => s.heap.size ≤ q) b := Nat.not_le.mpr hbl
  obtain ⟨A, hAe⟩ : ∃ A : Nat → Prop, A = fun q : Nat => s.heap.size ≤ q := ⟨_, rfl⟩
  rw [← hAe] at B hbA
  have hS : va_S A s.heap s.heap [] := va_S.rf
  have hP : va_P D vwCl [] s.heap := fun k q h => by simp at h
  have hD : va_D A [] := ⟨fun i j p q h => by simp at h, fun k q h => by simp at h⟩
  have hl := lv_entry ([.ref b]) (n := 4) (Nat.le_of_ble_eq_true rfl)
  rw [lg_entry_eq]
  generalize (lg_sl ([.ref b]) ++ List.replicate (4 - (lg_sl ([.ref b])).length) Slot.unset).toArray = ls at hl ⊢
  have hl : lv_has ls 4 [(0, .ref b)] := hl
  refine uNew (ci := 11) (C := RX11) (T := TX11) (N := 11) (fs := [.null, .null, .null, .null, .null, .null, .null, .null, .null, .null, .null]) B inlX11 tyX11_ok mcl_L_7 mis_X11 min_X11 hP hD hS rfl (by decide +kernel) (Nat.le_of_ble_eq_true rfl) (Nat.le_of_ble_eq_true rfl) dL_law_0 (fun q1 H hP hD hS => ?_)
  have hP : va_P D vwCl [(q1, .inr (11, [.null, .null, .null, .null, .null, .null, .null, .null, .null, .null, .null]))] H := hP
  have hD : va_D A [(q1, .inr (11, [.null, .null, .null, .null, .null, .null, .null, .null, .null, .null, .null]))] := hD
  refine lv_dup hx hb dL_law_3 rfl ?_
  refine uIv (As := []) (rest := [.ref q1]) (wr := []) [(q1, .inr (11, [.null, .null, .null, .null, .null, .null, .null, .null, .null, .null, .null]))] B hl.1 hP hD hS [0] [] rfl rfl rfl (kX11_init_22 l D K _ q1) wd_X11_init mml_L_9 rfl rfl ⟨Nat.le_of_ble_eq_true rfl, Nat.le_of_ble_eq_true rfl⟩ (Nat.le_of_ble_eq_true rfl) ⟨Nat.le_of_ble_eq_true rfl, Nat.le_of_ble_eq_true rfl⟩ dL_law_4 (fun u H locs hw hP hD hS => ?_)
  refine W.widen (k := 97) (n := 7803) (by decide) (by decide) ?_
  obtain ⟨u3, u4, u5, u6, u7, u8⟩ := u
  try dsimp only at hw
  have hP : va_P D vwCl [(q1, .inr (11, [.ref (u3 0), .ref (u3 7), .ref (u3 16), .ref (u3 17), .ref (u3 24), .ref (u3 27), .ref (u3 30), .ref (u3 33), .ref (u3 62), .ref (u3 77), .ref (u3 50)])), (u3 0, .inr (9, [.ref (u3 1), .ref (u3 2), .ref (u3 3), .ref (u3 4), .ref (u3 5), .ref (u3 6), .int 4, .int 4, .int 0])), (u3 1, .inl (K 0, 256, .inl (fun _ => 0))), (u3 2, .inl (K 0, 256, .inl (fun _ => 0))), (u3 3, .inl (K 0, 4, .inl (fun _ => 0))), (u3 4, .inl (K 0, 4, .inl (fun _ => 0))), (u3 5, .inl (K 0, 24, .inl u4)), (u3 6, .inl (K 0, 24, .inl u5)), (u3 7, .inr (4, [.ref (u3 0), .ref (u3 8), .ref (u3 9), .ref (u3 10), .ref (u3 11), .ref (u3 12), .ref (u3 13), .ref (u3 14), .ref (u3 15), .int 0])), (u3 8, .inl (K 0, 12, .inl (fun _ => 0))), (u3 9, .inl (K 0, 12, .inl (fun _ => 0))), (u3 10, .inl (K 0, 12, .inl (fun _ => 0))), (u3 11, .inl (K 0, 12, .inl (fun _ => 0))), (u3 12, .inl (K 0, 12, .inl (fun _ => 0))), (u3 13, .inl (K 0, 12, .inl (fun _ => 0))), (u3 14, .inl (K 0, 12, .inl (fun _ => 0))), (u3 15, .inl (K 0, 12, .inl (fun _ => 0))), (u3 16, .inr (8, [.ref (u3 0), .ref (u3 7)])), (u3 17, .inr (3, [.ref (u3 18), .ref (u3 19), .ref (u3 20), .ref (u3 21), .ref (u3 22), .ref (u3 23), .int 0, .int (-1), .int 1, .int 0])), (u3 18, .inl (K 0, 60, .inl (fun _ => 0))), (u3 19, .inl (K 0, 60, .inl (fun _ => 0))), (u3 20, .inl (K 0, 60, .inl (fun _ => 0))), (u3 21, .inl (K 1, 60, .inl (fun _ => 0))), (u3 22, .inl (K 0, 24, .inl (fun _ => 0))), (u3 23, .inl (K 0, 24, .inl (fun _ => 0))), (u3 24, .inr (1, [.ref (u3 7), .ref (u3 17), .ref (u3 16), .ref (u3 25), .ref (u3 26), .int 0, .int 0])), (u3 25, .inl (K 0, 12, .inl (fun _ => 0))), (u3 26, .inl (K 0, 12, .inl (fun _ => 0))), (u3 27, .inr (6, [.ref (u3 28), .ref (u3 29), .int 0, .int (-1), .int 0])), (u3 28, .inl (K 0, 252, .inl (fun _ => 0))), (u3 29, .inl (K 0, 12, .inl (fun _ => 0))), (u3 30, .inr (10, [.ref (u3 31), .ref (u3 32), .int 0, .int 0, .int 0, .int 0, .int 0, .int 0, .long 0, .int (-1)])), (u3 31, .inl (K 0, 1000, .inl (fun _ => 0))), (u3 32, .inl (K 2, 13, .inr (.inl u6))), (u3 33, .inr (5, [.ref (u3 30), .ref (u3 34), .ref (u3 35), .ref (u3 36), .ref (u3 37), .ref (u3 38), .int 0, .int 0, .int 0, .int (-1)])), (u3 34, .inl (K 2, 16, .inr (.inl (fun _ => 0)))), (u3 35, .inl (K 0, 16, .inl (fun _ => 0))), (u3 36, .inl (K 2, 64, .inr (.inl (fun _ => 0)))), (u3 37, .inl (K 0, 64, .inl (fun _ => 0))), (u3 38, .inr (7, [.ref (u3 39), .ref (u3 40), .ref (u3 41), .ref (u3 42), .ref (u3 43), .ref (u3 44), .ref (u3 45), .ref (u3 46), .ref (u3 47), .ref (u3 48), .ref (u3 49), .int 0, .int 0, .int 0, .int 2, .int 1])), (u3 39, .inl (K 2, 10, .inr (.inl (fun _ => 0)))), (u3 40, .inl (K 0, 10, .inl (fun _ => 0))), (u3 41, .inl (K 0, 10, .inl (fun _ => 0))), (u3 42, .inl (K 0, 10, .inl (fun _ => 0))), (u3 43, .inl (K 0, 16, .inl (fun _ => 0))), (u3 44, .inl (K 0, 16, .inl (fun _ => 0))), (u3 45, .inl (K 1, 16, .inl (fun _ => 0))), (u3 46, .inl (K 0, 16, .inl (fun _ => 0))), (u3 47, .inl (K 0, 64, .inl (fun _ => 0))), (u3 48, .inl (K 0, 64, .inl (fun _ => 0))), (u3 49, .inl (K 0, 64, .inl (fun _ => 0))), (u3 50, .inr (7, [.ref (u3 51), .ref (u3 52), .ref (u3 53), .ref (u3 54), .ref (u3 55), .ref (u3 56), .ref (u3 57), .ref (u3 58), .ref (u3 59), .ref (u3 60), .ref (u3 61), .int 0, .int 0, .int 0, .int 2, .int 1])), (u3 51, .inl (K 2, 10, .inr (.inl (fun _ => 0)))), (u3 52, .inl (K 0, 10, .inl (fun _ => 0))), (u3 53, .inl (K 0, 10, .inl (fun _ => 0))), (u3 54, .inl (K 0, 10, .inl (fun _ => 0))), (u3 55, .inl (K 0, 16, .inl (fun _ => 0))), (u3 56, .inl (K 0, 16, .inl (fun _ => 0))), (u3 57, .inl (K 1, 16, .inl (fun _ => 0))), (u3 58, .inl (K 0, 16, .inl (fun _ => 0))), (u3 59, .inl (K 0, 64, .inl (fun _ => 0))), (u3 60, .inl (K 0, 64, .inl (fun _ => 0))), (u3 61, .inl (K 0, 64, .inl (fun _ => 0))), (u3 62, .inr (2, [.ref (u3 24), .ref (u3 50), .int 0, .int 0, .ref (u3 63), .ref (u3 64), .ref (u3 69), .ref (u3 70), .ref (u3 71), .ref (u3 72), .ref (u3 73), .ref (u3 74), .ref (u3 75), .ref (u3 76)])), (u3 63, .inl (K 0, 5, .inl (fun _ => 0))), (u3 64, .inl (K 3, 4, .inr (.inr (.inr (.inr u7))))), (u3 65, .inl (K 0, 120, .inl (fun _ => 0))), (u3 66, .inl (K 0, 120, .inl (fun _ => 0))), (u3 67, .inl (K 0, 120, .inl (fun _ => 0))), (u3 68, .inl (K 0, 120, .inl (fun _ => 0))), (u3 69, .inl (K 0, 12, .inl (fun _ => 0))), (u3 70, .inl (K 0, 12, .inl (fun _ => 0))), (u3 71, .inl (K 0, 12, .inl (fun _ => 0))), (u3 72, .inl (K 0, 200, .inl (fun _ => 0))), (u3 73, .inl (K 0, 200, .inl (fun _ => 0))), (u3 74, .inl (K 0, 200, .inl (fun _ => 0))), (u3 75, .inl (K 0, 200, .inl (fun _ => 0))), (u3 76, .inl (K 0, 200, .inl (fun _ => 0))), (u3 77, .inr (0, [.ref (u3 0), .ref (u3 7), .ref (u3 78), .ref (u3 91), .ref (u3 92), .ref (u3 93), .ref (u3 94), .ref (u3 95), .int 0])), (u3 78, .inl (K 3, 12, .inr (.inr (.inr (.inr u8))))), (u3 79, .inl (K 0, 256, .inl (fun _ => 0))), (u3 80, .inl (K 0, 256, .inl (fun _ => 0))), (u3 81, .inl (K 0, 256, .inl (fun _ => 0))), (u3 82, .inl (K 0, 256, .inl (fun _ => 0))), (u3 83, .inl (K 0, 256, .inl (fun _ => 0))), (u3 84, .inl (K 0, 256, .inl (fun _ => 0))), (u3 85, .inl (K 0, 256, .inl (fun _ => 0))), (u3 86, .inl (K 0, 256, .inl (fun _ => 0))), (u3 87, .inl (K 0, 256, .inl (fun _ => 0))), (u3 88, .inl (K 0, 256, .inl (fun _ => 0))), (u3 89, .inl (K 0, 256, .inl (fun _ => 0))), (u3 90, .inl (K 0, 256, .inl (fun _ => 0))), (u3 91, .inl (K 1, 12, .inl (fun _ => 0))), (u3 92, .inl (K 0, 12, .inl (fun _ => 0))), (u3 93, .inl (K 0, 12, .inl (fun _ => 0))), (u3 94, .inl (K 0, 12, .inl (fun _ => 0))), (u3 95, .inl (K 0, 12, .inl (fun _ => 0)))] H := hP
  have hD : va_D A [(q1, .inr (11, [.ref (u3 0), .ref (u3 7), .ref (u3 16), .ref (u3 17), .ref (u3 24), .ref (u3 27), .ref (u3 30), .ref (u3 33), .ref (u3 62), .ref (u3 77), .ref (u3 50)])), (u3 0, .inr (9, [.ref (u3 1), .ref (u3 2), .ref (u3 3), .ref (u3 4), .ref (u3 5), .ref (u3 6), .int 4, .int 4, .int 0])), (u3 1, .inl (K 0, 256, .inl (fun _ => 0))), (u3 2, .inl (K 0, 256, .inl (fun _ => 0))), (u3 3, .inl (K 0, 4, .inl (fun _ => 0))), (u3 4, .inl (K 0, 4, .inl (fun _ => 0))), (u3 5, .inl (K 0, 24, .inl u4)), (u3 6, .inl (K 0, 24, .inl u5)), (u3 7, .inr (4, [.ref (u3 0), .ref (u3 8), .ref (u3 9), .ref (u3 10), .ref (u3 11), .ref (u3 12), .ref (u3 13), .ref (u3 14), .ref (u3 15), .int 0])), (u3 8, .inl (K 0, 12, .inl (fun _ => 0))), (u3 9, .inl (K 0, 12, .inl (fun _ => 0))), (u3 10, .inl (K 0, 12, .inl (fun _ => 0))), (u3 11, .inl (K 0, 12, .inl (fun _ => 0))), (u3 12, .inl (K 0, 12, .inl (fun _ => 0))), (u3 13, .inl (K 0, 12, .inl (fun _ => 0))), (u3 14, .inl (K 0, 12, .inl (fun _ => 0))), (u3 15, .inl (K 0, 12, .inl (fun _ => 0))), (u3 16, .inr (8, [.ref (u3 0), .ref (u3 7)])), (u3 17, .inr (3, [.ref (u3 18), .ref (u3 19), .ref (u3 20), .ref (u3 21), .ref (u3 22), .ref (u3 23), .int 0, .int (-1), .int 1, .int 0])), (u3 18, .inl (K 0, 60, .inl (fun _ => 0))), (u3 19, .inl (K 0, 60, .inl (fun _ => 0))), (u3 20, .inl (K 0, 60, .inl (fun _ => 0))), (u3 21, .inl (K 1, 60, .inl (fun _ => 0))), (u3 22, .inl (K 0, 24, .inl (fun _ => 0))), (u3 23, .inl (K 0, 24, .inl (fun _ => 0))), (u3 24, .inr (1, [.ref (u3 7), .ref (u3 17), .ref (u3 16), .ref (u3 25), .ref (u3 26), .int 0, .int 0])), (u3 25, .inl (K 0, 12, .inl (fun _ => 0))), (u3 26, .inl (K 0, 12, .inl (fun _ => 0))), (u3 27, .inr (6, [.ref (u3 28), .ref (u3 29), .int 0, .int (-1), .int 0])), (u3 28, .inl (K 0, 252, .inl (fun _ => 0))), (u3 29, .inl (K 0, 12, .inl (fun _ => 0))), (u3 30, .inr (10, [.ref (u3 31), .ref (u3 32), .int 0, .int 0, .int 0, .int 0, .int 0, .int 0, .long 0, .int (-1)])), (u3 31, .inl (K 0, 1000, .inl (fun _ => 0))), (u3 32, .inl (K 2, 13, .inr (.inl u6))), (u3 33, .inr (5, [.ref (u3 30), .ref (u3 34), .ref (u3 35), .ref (u3 36), .ref (u3 37), .ref (u3 38), .int 0, .int 0, .int 0, .int (-1)])), (u3 34, .inl (K 2, 16, .inr (.inl (fun _ => 0)))), (u3 35, .inl (K 0, 16, .inl (fun _ => 0))), (u3 36, .inl (K 2, 64, .inr (.inl (fun _ => 0)))), (u3 37, .inl (K 0, 64, .inl (fun _ => 0))), (u3 38, .inr (7, [.ref (u3 39), .ref (u3 40), .ref (u3 41), .ref (u3 42), .ref (u3 43), .ref (u3 44), .ref (u3 45), .ref (u3 46), .ref (u3 47), .ref (u3 48), .ref (u3 49), .int 0, .int 0, .int 0, .int 2, .int 1])), (u3 39, .inl (K 2, 10, .inr (.inl (fun _ => 0)))), (u3 40, .inl (K 0, 10, .inl (fun _ => 0))), (u3 41, .inl (K 0, 10, .inl (fun _ => 0))), (u3 42, .inl (K 0, 10, .inl (fun _ => 0))), (u3 43, .inl (K 0, 16, .inl (fun _ => 0))), (u3 44, .inl (K 0, 16, .inl (fun _ => 0))), (u3 45, .inl (K 1, 16, .inl (fun _ => 0))), (u3 46, .inl (K 0, 16, .inl (fun _ => 0))), (u3 47, .inl (K 0, 64, .inl (fun _ => 0))), (u3 48, .inl (K 0, 64, .inl (fun _ => 0))), (u3 49, .inl (K 0, 64, .inl (fun _ => 0))), (u3 50, .inr (7, [.ref (u3 51), .ref (u3 52), .ref (u3 53), .ref (u3 54), .ref (u3 55), .ref (u3 56), .ref (u3 57), .ref (u3 58), .ref (u3 59), .ref (u3 60), .ref (u3 61), .int 0, .int 0, .int 0, .int 2, .int 1])), (u3 51, .inl (K 2, 10, .inr (.inl (fun _ => 0)))), (u3 52, .inl (K 0, 10, .inl (fun _ => 0))), (u3 53, .inl (K 0, 10, .inl (fun _ => 0))), (u3 54, .inl (K 0, 10, .inl (fun _ => 0))), (u3 55, .inl (K 0, 16, .inl (fun _ => 0))), (u3 56, .inl (K 0, 16, .inl (fun _ => 0))), (u3 57, .inl (K 1, 16, .inl (fun _ => 0))), (u3 58, .inl (K 0, 16, .inl (fun _ => 0))), (u3 59, .inl (K 0, 64, .inl (fun _ => 0))), (u3 60, .inl (K 0, 64, .inl (fun _ => 0))), (u3 61, .inl (K 0, 64, .inl (fun _ => 0))), (u3 62, .inr (2, [.ref (u3 24), .ref (u3 50), .int 0, .int 0, .ref (u3 63), .ref (u3 64), .ref (u3 69), .ref (u3 70), .ref (u3 71), .ref (u3 72), .ref (u3 73), .ref (u3 74), .ref (u3 75), .ref (u3 76)])), (u3 63, .inl (K 0, 5, .inl (fun _ => 0))), (u3 64, .inl (K 3, 4, .inr (.inr (.inr (.inr u7))))), (u3 65, .inl (K 0, 120, .inl (fun _ => 0))), (u3 66, .inl (K 0, 120, .inl (fun _ => 0))), (u3 67, .inl (K 0, 120, .inl (fun _ => 0))), (u3 68, .inl (K 0, 120, .inl (fun _ => 0))), (u3 69, .inl (K 0, 12, .inl (fun _ => 0))), (u3 70, .inl (K 0, 12, .inl (fun _ => 0))), (u3 71, .inl (K 0, 12, .inl (fun _ => 0))), (u3 72, .inl (K 0, 200, .inl (fun _ => 0))), (u3 73, .inl (K 0, 200, .inl (fun _ => 0))), (u3 74, .inl (K 0, 200, .inl (fun _ => 0))), (u3 75, .inl (K 0, 200, .inl (fun _ => 0))), (u3 76, .inl (K 0, 200, .inl (fun _ => 0))), (u3 77, .inr (0, [.ref (u3 0), .ref (u3 7), .ref (u3 78), .ref (u3 91), .ref (u3 92), .ref (u3 93), .ref (u3 94), .ref (u3 95), .int 0])), (u3 78, .inl (K 3, 12, .inr (.inr (.inr (.inr u8))))), (u3 79, .inl (K 0, 256, .inl (fun _ => 0))), (u3 80, .inl (K 0, 256, .inl (fun _ => 0))), (u3 81, .inl (K 0, 256, .inl (fun _ => 0))), (u3 82, .inl (K 0, 256, .inl (fun _ => 0))), (u3 83, .inl (K 0, 256, .inl (fun _ => 0))), (u3 84, .inl (K 0, 256, .inl (fun _ => 0))), (u3 85, .inl (K 0, 256, .inl (fun _ => 0))), (u3 86, .inl (K 0, 256, .inl (fun _ => 0))), (u3 87, .inl (K 0, 256, .inl (fun _ => 0))), (u3 88, .inl (K 0, 256, .inl (fun _ => 0))), (u3 89, .inl (K 0, 256, .inl (fun _ => 0))), (u3 90, .inl (K 0, 256, .inl (fun _ => 0))), (u3 91, .inl (K 1, 12, .inl (fun _ => 0))), (u3 92, .inl (K 0, 12, .inl (fun _ => 0))), (u3 93, .inl (K 0, 12, .inl (fun _ => 0))), (u3 94, .inl (K 0, 12, .inl (fun _ => 0))), (u3 95, .inl (K 0, 12, .inl (fun _ => 0)))] := hD
  refine lv_astore_n (lv' := [(1, .ref q1), (0, .ref b)]) hx hb dL_law_7 rfl hl (by decide) rfl (fun ls hl => ?_)
  refine uNew (ci := 12) (C := RX12) (T := TX12) (N := 99) (fs := [.int 0, .int 0, .int 0, .null, .null, .null, .null, .int 0, .null, .null, .int 0, .null, .null, .null, .null, .null, .null, .null, .int 0, .null, .null, .null, .null, .null, .null, .int 0, .null, .int 0, .int 0, .int 0, .null, .int 0, .int 0, .null, .int 0, .null, .null, .null, .null, .null, .null, .null, .null, .null, .null, .null, .null, .null, .null, .null, .null, .null, .null, .null, .null, .null, .null, .null, .int 0, .int 0, .int 0, .int 0, .int 0, .long 0, .int 0, .int 0, .int 0, .int 0, .int 0, .int 0, .int 0, .null, .null, .null, .null, .null, .int 0, .int 0, .null, .null, .null, .null, .null, .null, .null, .null, .int 0, .int 0, .int 0, .int 0, .null, .null, .int 0, .null, .null, .null, .null, .null, .null]) B inlX12 tyX12_ok mcl_L_10 mis_X12 min_X12 hP hD hS rfl (by decide +kernel) (Nat.le_of_ble_eq_true rfl) (Nat.le_of_ble_eq_true rfl) dL_law_8 (fun q9 H hP hD hS => ?_)
  have hP : va_P D vwCl [(q1, .inr (11, [.ref (u3 0), .ref (u3 7), .ref (u3 16), .ref (u3 17), .ref (u3 24), .ref (u3 27), .ref (u3 30), .ref (u3 33), .ref (u3 62), .ref (u3 77), .ref (u3 50)])), (u3 0, .inr (9, [.ref (u3 1), .ref (u3 2), .ref (u3 3), .ref (u3 4), .ref (u3 5), .ref (u3 6), .int 4, .int 4, .int 0])), (u3 1, .inl (K 0, 256, .inl (fun _ => 0))), (u3 2, .inl (K 0, 256, .inl (fun _ => 0))), (u3 3, .inl (K 0, 4, .inl (fun _ => 0))), (u3 4, .inl (K 0, 4, .inl (fun _ => 0))), (u3 5, .inl (K 0, 24, .inl u4)), (u3 6, .inl (K 0, 24, .inl u5)), (u3 7, .inr (4, [.ref (u3 0), .ref (u3 8), .ref (u3 9), .ref (u3 10), .ref (u3 11), .ref (u3 12), .ref (u3 13), .ref (u3 14), .ref (u3 15), .int 0])), (u3 8, .inl (K 0, 12, .inl (fun _ => 0))), (u3 9, .inl (K 0, 12, .inl (fun _ => 0))), (u3 10, .inl (K 0, 12, .inl (fun _ => 0))), (u3 11, .inl (K 0, 12, .inl (fun _ => 0))), (u3 12, .inl (K 0, 12, .inl (fun _ => 0))), (u3 13, .inl (K 0, 12, .inl (fun _ => 0))), (u3 14, .inl (K 0, 12, .inl (fun _ => 0))), (u3 15, .inl (K 0, 12, .inl (fun _ => 0))), (u3 16, .inr (8, [.ref (u3 0), .ref (u3 7)])), (u3 17, .inr (3, [.ref (u3 18), .ref (u3 19), .ref (u3 20), .ref (u3 21), .ref (u3 22), .ref (u3 23), .int 0, .int (-1), .int 1, .int 0])), (u3 18, .inl (K 0, 60, .inl (fun _ => 0))), (u3 19, .inl (K 0, 60, .inl (fun _ => 0))), (u3 20, .inl (K 0, 60, .inl (fun _ => 0))), (u3 21, .inl (K 1, 60, .inl (fun _ => 0))), (u3 22, .inl (K 0, 24, .inl (fun _ => 0))), (u3 23, .inl (K 0, 24, .inl (fun _ => 0))), (u3 24, .inr (1, [.ref (u3 7), .ref (u3 17), .ref (u3 16), .ref (u3 25), .ref (u3 26), .int 0, .int 0])), (u3 25, .inl (K 0, 12, .inl (fun _ => 0))), (u3 26, .inl (K 0, 12, .inl (fun _ => 0))), (u3 27, .inr (6, [.ref (u3 28), .ref (u3 29), .int 0, .int (-1), .int 0])), (u3 28, .inl (K 0, 252, .inl (fun _ => 0))), (u3 29, .inl (K 0, 12, .inl (fun _ => 0))), (u3 30, .inr (10, [.ref (u3 31), .ref (u3 32), .int 0, .int 0, .int 0, .int 0, .int 0, .int 0, .long 0, .int (-1)])), (u3 31, .inl (K 0, 1000, .inl (fun _ => 0))), (u3 32, .inl (K 2, 13, .inr (.inl u6))), (u3 33, .inr (5, [.ref (u3 30), .ref (u3 34), .ref (u3 35), .ref (u3 36), .ref (u3 37), .ref (u3 38), .int 0, .int 0, .int 0, .int (-1)])), (u3 34, .inl (K 2, 16, .inr (.inl (fun _ => 0)))), (u3 35, .inl (K 0, 16, .inl (fun _ => 0))), (u3 36, .inl (K 2, 64, .inr (.inl (fun _ => 0)))), (u3 37, .inl (K 0, 64, .inl (fun _ => 0))), (u3 38, .inr (7, [.ref (u3 39), .ref (u3 40), .ref (u3 41), .ref (u3 42), .ref (u3 43), .ref (u3 44), .ref (u3 45), .ref (u3 46), .ref (u3 47), .ref (u3 48), .ref (u3 49), .int 0, .int 0, .int 0, .int 2, .int 1])), (u3 39, .inl (K 2, 10, .inr (.inl (fun _ => 0)))), (u3 40, .inl (K 0, 10, .inl (fun _ => 0))), (u3 41, .inl (K 0, 10, .inl (fun _ => 0))), (u3 42, .inl (K 0, 10, .inl (fun _ => 0))), (u3 43, .inl (K 0, 16, .inl (fun _ => 0))), (u3 44, .inl (K 0, 16, .inl (fun _ => 0))), (u3 45, .inl (K 1, 16, .inl (fun _ => 0))), (u3 46, .inl (K 0, 16, .inl (fun _ => 0))), (u3 47, .inl (K 0, 64, .inl (fun _ => 0))), (u3 48, .inl (K 0, 64, .inl (fun _ => 0))), (u3 49, .inl (K 0, 64, .inl (fun _ => 0))), (u3 50, .inr (7, [.ref (u3 51), .ref (u3 52), .ref (u3 53), .ref (u3 54), .ref (u3 55), .ref (u3 56), .ref (u3 57), .ref (u3 58), .ref (u3 59), .ref (u3 60), .ref (u3 61), .int 0, .int 0, .int 0, .int 2, .int 1])), (u3 51, .inl (K 2, 10, .inr (.inl (fun _ => 0)))), (u3 52, .inl (K 0, 10, .inl (fun _ => 0))), (u3 53, .inl (K 0, 10, .inl (fun _ => 0))), (u3 54, .inl (K 0, 10, .inl (fun _ => 0))), (u3 55, .inl (K 0, 16, .inl (fun _ => 0))), (u3 56, .inl (K 0, 16, .inl (fun _ => 0))), (u3 57, .inl (K 1, 16, .inl (fun _ => 0))), (u3 58, .inl (K 0, 16, .inl (fun _ => 0))), (u3 59, .inl (K 0, 64, .inl (fun _ => 0))), (u3 60, .inl (K 0, 64, .inl (fun _ => 0))), (u3 61, .inl (K 0, 64, .inl (fun _ => 0))), (u3 62, .inr (2, [.ref (u3 24), .ref (u3 50), .int 0, .int 0, .ref (u3 63), .ref (u3 64), .ref (u3 69), .ref (u3 70), .ref (u3 71), .ref (u3 72), .ref (u3 73), .ref (u3 74), .ref (u3 75), .ref (u3 76)])), (u3 63, .inl (K 0, 5, .inl (fun _ => 0))), (u3 64, .inl (K 3, 4, .inr (.inr (.inr (.inr u7))))), (u3 65, .inl (K 0, 120, .inl (fun _ => 0))), (u3 66, .inl (K 0, 120, .inl (fun _ => 0))), (u3 67, .inl (K 0, 120, .inl (fun _ => 0))), (u3 68, .inl (K 0, 120, .inl (fun _ => 0))), (u3 69, .inl (K 0, 12, .inl (fun _ => 0))), (u3 70, .inl (K 0, 12, .inl (fun _ => 0))), (u3 71, .inl (K 0, 12, .inl (fun _ => 0))), (u3 72, .inl (K 0, 200, .inl (fun _ => 0))), (u3 73, .inl (K 0, 200, .inl (fun _ => 0))), (u3 74, .inl (K 0, 200, .inl (fun _ => 0))), (u3 75, .inl (K 0, 200, .inl (fun _ => 0))), (u3 76, .inl (K 0, 200, .inl (fun _ => 0))), (u3 77, .inr (0, [.ref (u3 0), .ref (u3 7), .ref (u3 78), .ref (u3 91), .ref (u3 92), .ref (u3 93), .ref (u3 94), .ref (u3 95), .int 0])), (u3 78, .inl (K 3, 12, .inr (.inr (.inr (.inr u8))))), (u3 79, .inl (K 0, 256, .inl (fun _ => 0))), (u3 80, .inl (K 0, 256, .inl (fun _ => 0))), (u3 81, .inl (K 0, 256, .inl (fun _ => 0))), (u3 82, .inl (K 0, 256, .inl (fun _ => 0))), (u3 83, .inl (K 0, 256, .inl (fun _ => 0))), (u3 84, .inl (K 0, 256, .inl (fun _ => 0))), (u3 85, .inl (K 0, 256, .inl (fun _ => 0))), (u3 86, .inl (K 0, 256, .inl (fun _ => 0))), (u3 87, .inl (K 0, 256, .inl (fun _ => 0))), (u3 88, .inl (K 0, 256, .inl (fun _ => 0))), (u3 89, .inl (K 0, 256, .inl (fun _ => 0))), (u3 90, .inl (K 0, 256, .inl (fun _ => 0))), (u3 91, .inl (K 1, 12, .inl (fun _ => 0))), (u3 92, .inl (K 0, 12, .inl (fun _ => 0))), (u3 93, .inl (K 0, 12, .inl (fun _ => 0))), (u3 94, .inl (K 0, 12, .inl (fun _ => 0))), (u3 95, .inl (K 0, 12, .inl (fun _ => 0))), (q9, .inr (12, [.int 0, .int 0, .int 0, .null, .null, .null, .null, .int 0, .null, .null, .int 0, .null, .null, .null, .null, .null, .null, .null, .int 0, .null, .null, .null, .null, .null, .null, .int 0, .null, .int 0, .int 0, .int 0, .null, .int 0, .int 0, .null, .int 0, .null, .null, .null, .null, .null, .null, .null, .null, .null, .null, .null, .null, .null, .null, .null, .null, .null, .null, .null, .null, .null, .null, .null, .int 0, .int 0, .int 0, .int 0, .int 0, .long 0, .int 0, .int 0, .int 0, .int 0, .int 0, .int 0, .int 0, .null, .null, .null, .null, .null, .int 0, .int 0, .null, .null, .null, .null, .null, .null, .null, .null, .int 0, .int 0, .int 0, .int 0, .null, .null, .int 0, .null, .null, .null, .null, .null, .null]))] H := hP
  have hD : va_D A [(q1, .inr (11, [.ref (u3 0), .ref (u3 7), .ref (u3 16), .ref (u3 17), .ref (u3 24), .ref (u3 27), .ref (u3 30), .ref (u3 33), .ref (u3 62), .ref (u3 77), .ref (u3 50)])), (u3 0, .inr (9, [.ref (u3 1), .ref (u3 2), .ref (u3 3), .ref (u3 4), .ref (u3 5), .ref (u3 6), .int 4, .int 4, .int 0])), (u3 1, .inl (K 0, 256, .inl (fun _ => 0))), (u3 2, .inl (K 0, 256, .inl (fun _ => 0))), (u3 3, .inl (K 0, 4, .inl (fun _ => 0))), (u3 4, .inl (K 0, 4, .inl (fun _ => 0))), (u3 5, .inl (K 0, 24, .inl u4)), (u3 6, .inl (K 0, 24, .inl u5)), (u3 7, .inr (4, [.ref (u3 0), .ref (u3 8), .ref (u3 9), .ref (u3 10), .ref (u3 11), .ref (u3 12), .ref (u3 13), .ref (u3 14), .ref (u3 15), .int 0])), (u3 8, .inl (K 0, 12, .inl (fun _ => 0))), (u3 9, .inl (K 0, 12, .inl (fun _ => 0))), (u3 10, .inl (K 0, 12, .inl (fun _ => 0))), (u3 11, .inl (K 0, 12, .inl (fun _ => 0))), (u3 12, .inl (K 0, 12, .inl (fun _ => 0))), (u3 13, .inl (K 0, 12, .inl (fun _ => 0))), (u3 14, .inl (K 0, 12, .inl (fun _ => 0))), (u3 15, .inl (K 0, 12, .inl (fun _ => 0))), (u3 16, .inr (8, [.ref (u3 0), .ref (u3 7)])), (u3 17, .inr (3, [.ref (u3 18), .ref (u3 19), .ref (u3 20), .ref (u3 21), .ref (u3 22), .ref (u3 23), .int 0, .int (-1), .int 1, .int 0])), (u3 18, .inl (K 0, 60, .inl (fun _ => 0))), (u3 19, .inl (K 0, 60, .inl (fun _ => 0))), (u3 20, .inl (K 0, 60, .inl (fun _ => 0))), (u3 21, .inl (K 1, 60, .inl (fun _ => 0))), (u3 22, .inl (K 0, 24, .inl (fun _ => 0))), (u3 23, .inl (K 0, 24, .inl (fun _ => 0))), (u3 24, .inr (1, [.ref (u3 7), .ref (u3 17), .ref (u3 16), .ref (u3 25), .ref (u3 26), .int 0, .int 0])), (u3 25, .inl (K 0, 12, .inl (fun _ => 0))), (u3 26, .inl (K 0, 12, .inl (fun _ => 0))), (u3 27, .inr (6, [.ref (u3 28), .ref (u3 29), .int 0, .int (-1), .int 0])), (u3 28, .inl (K 0, 252, .inl (fun _ => 0))), (u3 29, .inl (K 0, 12, .inl (fun _ => 0))), (u3 30, .inr (10, [.ref (u3 31), .ref (u3 32), .int 0, .int 0, .int 0, .int 0, .int 0, .int 0, .long 0, .int (-1)])), (u3 31, .inl (K 0, 1000, .inl (fun _ => 0))), (u3 32, .inl (K 2, 13, .inr (.inl u6))), (u3 33, .inr (5, [.ref (u3 30), .ref (u3 34), .ref (u3 35), .ref (u3 36), .ref (u3 37), .ref (u3 38), .int 0, .int 0, .int 0, .int (-1)])), (u3 34, .inl (K 2, 16, .inr (.inl (fun _ => 0)))), (u3 35, .inl (K 0, 16, .inl (fun _ => 0))), (u3 36, .inl (K 2, 64, .inr (.inl (fun _ => 0)))), (u3 37, .inl (K 0, 64, .inl (fun _ => 0))), (u3 38, .inr (7, [.ref (u3 39), .ref (u3 40), .ref (u3 41), .ref (u3 42), .ref (u3 43), .ref (u3 44), .ref (u3 45), .ref (u3 46), .ref (u3 47), .ref (u3 48), .ref (u3 49), .int 0, .int 0, .int 0, .int 2, .int 1])), (u3 39, .inl (K 2, 10, .inr (.inl (fun _ => 0)))), (u3 40, .inl (K 0, 10, .inl (fun _ => 0))), (u3 41, .inl (K 0, 10, .inl (fun _ => 0))), (u3 42, .inl (K 0, 10, .inl (fun _ => 0))), (u3 43, .inl (K 0, 16, .inl (fun _ => 0))), (u3 44, .inl (K 0, 16, .inl (fun _ => 0))), (u3 45, .inl (K 1, 16, .inl (fun _ => 0))), (u3 46, .inl (K 0, 16, .inl (fun _ => 0))), (u3 47, .inl (K 0, 64, .inl (fun _ => 0))), (u3 48, .inl (K 0, 64, .inl (fun _ => 0))), (u3 49, .inl (K 0, 64, .inl (fun _ => 0))), (u3 50, .inr (7, [.ref (u3 51), .ref (u3 52), .ref (u3 53), .ref (u3 54), .ref (u3 55), .ref (u3 56), .ref (u3 57), .ref (u3 58), .ref (u3 59), .ref (u3 60), .ref (u3 61), .int 0, .int 0, .int 0, .int 2, .int 1])), (u3 51, .inl (K 2, 10, .inr (.inl (fun _ => 0)))), (u3 52, .inl (K 0, 10, .inl (fun _ => 0))), (u3 53, .inl (K 0, 10, .inl (fun _ => 0))), (u3 54, .inl (K 0, 10, .inl (fun _ => 0))), (u3 55, .inl (K 0, 16, .inl (fun _ => 0))), (u3 56, .inl (K 0, 16, .inl (fun _ => 0))), (u3 57, .inl (K 1, 16, .inl (fun _ => 0))), (u3 58, .inl (K 0, 16, .inl (fun _ => 0))), (u3 59, .inl (K 0, 64, .inl (fun _ => 0))), (u3 60, .inl (K 0, 64, .inl (fun _ => 0))), (u3 61, .inl (K 0, 64, .inl (fun _ => 0))), (u3 62, .inr (2, [.ref (u3 24), .ref (u3 50), .int 0, .int 0, .ref (u3 63), .ref (u3 64), .ref (u3 69), .ref (u3 70), .ref (u3 71), .ref (u3 72), .ref (u3 73), .ref (u3 74), .ref (u3 75), .ref (u3 76)])), (u3 63, .inl (K 0, 5, .inl (fun _ => 0))), (u3 64, .inl (K 3, 4, .inr (.inr (.inr (.inr u7))))), (u3 65, .inl (K 0, 120, .inl (fun _ => 0))), (u3 66, .inl (K 0, 120, .inl (fun _ => 0))), (u3 67, .inl (K 0, 120, .inl (fun _ => 0))), (u3 68, .inl (K 0, 120, .inl (fun _ => 0))), (u3 69, .inl (K 0, 12, .inl (fun _ => 0))), (u3 70, .inl (K 0, 12, .inl (fun _ => 0))), (u3 71, .inl (K 0, 12, .inl (fun _ => 0))), (u3 72, .inl (K 0, 200, .inl (fun _ => 0))), (u3 73, .inl (K 0, 200, .inl (fun _ => 0))), (u3 74, .inl (K 0, 200, .inl (fun _ => 0))), (u3 75, .inl (K 0, 200, .inl (fun _ => 0))), (u3 76, .inl (K 0, 200, .inl (fun _ => 0))), (u3 77, .inr (0, [.ref (u3 0), .ref (u3 7), .ref (u3 78), .ref (u3 91), .ref (u3 92), .ref (u3 93), .ref (u3 94), .ref (u3 95), .int 0])), (u3 78, .inl (K 3, 12, .inr (.inr (.inr (.inr u8))))), (u3 79, .inl (K 0, 256, .inl (fun _ => 0))), (u3 80, .inl (K 0, 256, .inl (fun _ => 0))), (u3 81, .inl (K 0, 256, .inl (fun _ => 0))), (u3 82, .inl (K 0, 256, .inl (fun _ => 0))), (u3 83, .inl (K 0, 256, .inl (fun _ => 0))), (u3 84, .inl (K 0, 256, .inl (fun _ => 0))), (u3 85, .inl (K 0, 256, .inl (fun _ => 0))), (u3 86, .inl (K 0, 256, .inl (fun _ => 0))), (u3 87, .inl (K 0, 256, .inl (fun _ => 0))), (u3 88, .inl (K 0, 256, .inl (fun _ => 0))), (u3 89, .inl (K 0, 256, .inl (fun _ => 0))), (u3 90, .inl (K 0, 256, .inl (fun _ => 0))), (u3 91, .inl (K 1, 12, .inl (fun _ => 0))), (u3 92, .inl (K 0, 12, .inl (fun _ => 0))), (u3 93, .inl (K 0, 12, .inl (fun _ => 0))), (u3 94, .inl (K 0, 12, .inl (fun _ => 0))), (u3 95, .inl (K 0, 12, .inl (fun _ => 0))), (q9, .inr (12, [.int 0, .int 0, .int 0, .null, .null, .null, .null, .int 0, .null, .null, .int 0, .null, .null, .null, .null, .null, .null, .null, .int 0, .null, .null, .null, .null, .null, .null, .int 0, .null, .int 0, .int 0, .int 0, .null, .int 0, .int 0, .null, .int 0, .null, .null, .null, .null, .null, .null, .null, .null, .null, .null, .null, .null, .null, .null, .null, .null, .null, .null, .null, .null, .null, .null, .null, .int 0, .int 0, .int 0, .int 0, .int 0, .long 0, .int 0, .int 0, .int 0, .int 0, .int 0, .int 0, .int 0, .null, .null, .null, .null, .null, .int 0, .int 0, .null, .null, .null, .null, .null, .null, .null, .null, .int 0, .int 0, .int 0, .int 0, .null, .null, .int 0, .null, .null, .null, .null, .null, .null]))] := hD
  refine lv_pc (q := 11) rfl ?_
  refine lv_dup hx hb dL_law_11 rfl ?_
  refine uIv (As := []) (rest := [.ref q9]) (wr := [(q1, .inr (11, [.ref (u3 0), .ref (u3 7), .ref (u3 16), .ref (u3 17), .ref (u3 24), .ref (u3 27), .ref (u3 30), .ref (u3 33), .ref (u3 62), .ref (u3 77), .ref (u3 50)])), (u3 0, .inr (9, [.ref (u3 1), .ref (u3 2), .ref (u3 3), .ref (u3 4), .ref (u3 5), .ref (u3 6), .int 4, .int 4, .int 0])), (u3 1, .inl (K 0, 256, .inl (fun _ => 0))), (u3 2, .inl (K 0, 256, .inl (fun _ => 0))), (u3 3, .inl (K 0, 4, .inl (fun _ => 0))), (u3 4, .inl (K 0, 4, .inl (fun _ => 0))), (u3 5, .inl (K 0, 24, .inl u4)), (u3 6, .inl (K 0, 24, .inl u5)), (u3 7, .inr (4, [.ref (u3 0), .ref (u3 8), .ref (u3 9), .ref (u3 10), .ref (u3 11), .ref (u3 12), .ref (u3 13), .ref (u3 14), .ref (u3 15), .int 0])), (u3 8, .inl (K 0, 12, .inl (fun _ => 0))), (u3 9, .inl (K 0, 12, .inl (fun _ => 0))), (u3 10, .inl (K 0, 12, .inl (fun _ => 0))), (u3 11, .inl (K 0, 12, .inl (fun _ => 0))), (u3 12, .inl (K 0, 12, .inl (fun _ => 0))), (u3 13, .inl (K 0, 12, .inl (fun _ => 0))), (u3 14, .inl (K 0, 12, .inl (fun _ => 0))), (u3 15, .inl (K 0, 12, .inl (fun _ => 0))), (u3 16, .inr (8, [.ref (u3 0), .ref (u3 7)])), (u3 17, .inr (3, [.ref (u3 18), .ref (u3 19), .ref (u3 20), .ref (u3 21), .ref (u3 22), .ref (u3 23), .int 0, .int (-1), .int 1, .int 0])), (u3 18, .inl (K 0, 60, .inl (fun _ => 0))), (u3 19, .inl (K 0, 60, .inl (fun _ => 0))), (u3 20, .inl (K 0, 60, .inl (fun _ => 0))), (u3 21, .inl (K 1, 60, .inl (fun _ => 0))), (u3 22, .inl (K 0, 24, .inl (fun _ => 0))), (u3 23, .inl (K 0, 24, .inl (fun _ => 0))), (u3 24, .inr (1, [.ref (u3 7), .ref (u3 17), .ref (u3 16), .ref (u3 25), .ref (u3 26), .int 0, .int 0])), (u3 25, .inl (K 0, 12, .inl (fun _ => 0))), (u3 26, .inl (K 0, 12, .inl (fun _ => 0))), (u3 27, .inr (6, [.ref (u3 28), .ref (u3 29), .int 0, .int (-1), .int 0])), (u3 28, .inl (K 0, 252, .inl (fun _ => 0))), (u3 29, .inl (K 0, 12, .inl (fun _ => 0))), (u3 30, .inr (10, [.ref (u3 31), .ref (u3 32), .int 0, .int 0, .int 0, .int 0, .int 0, .int 0, .long 0, .int (-1)])), (u3 31, .inl (K 0, 1000, .inl (fun _ => 0))), (u3 32, .inl (K 2, 13, .inr (.inl u6))), (u3 33, .inr (5, [.ref (u3 30), .ref (u3 34), .ref (u3 35), .ref (u3 36), .ref (u3 37), .ref (u3 38), .int 0, .int 0, .int 0, .int (-1)])), (u3 34, .inl (K 2, 16, .inr (.inl (fun _ => 0)))), (u3 35, .inl (K 0, 16, .inl (fun _ => 0))), (u3 36, .inl (K 2, 64, .inr (.inl (fun _ => 0)))), (u3 37, .inl (K 0, 64, .inl (fun _ => 0))), (u3 38, .inr (7, [.ref (u3 39), .ref (u3 40), .ref (u3 41), .ref (u3 42), .ref (u3 43), .ref (u3 44), .ref (u3 45), .ref (u3 46), .ref (u3 47), .ref (u3 48), .ref (u3 49), .int 0, .int 0, .int 0, .int 2, .int 1])), (u3 39, .inl (K 2, 10, .inr (.inl (fun _ => 0)))), (u3 40, .inl (K 0, 10, .inl (fun _ => 0))), (u3 41, .inl (K 0, 10, .inl (fun _ => 0))), (u3 42, .inl (K 0, 10, .inl (fun _ => 0))), (u3 43, .inl (K 0, 16, .inl (fun _ => 0))), (u3 44, .inl (K 0, 16, .inl (fun _ => 0))), (u3 45, .inl (K 1, 16, .inl (fun _ => 0))), (u3 46, .inl (K 0, 16, .inl (fun _ => 0))), (u3 47, .inl (K 0, 64, .inl (fun _ => 0))), (u3 48, .inl (K 0, 64, .inl (fun _ => 0))), (u3 49, .inl (K 0, 64, .inl (fun _ => 0))), (u3 50, .inr (7, [.ref (u3 51), .ref (u3 52), .ref (u3 53), .ref (u3 54), .ref (u3 55), .ref (u3 56), .ref (u3 57), .ref (u3 58), .ref (u3 59), .ref (u3 60), .ref (u3 61), .int 0, .int 0, .int 0, .int 2, .int 1])), (u3 51, .inl (K 2, 10, .inr (.inl (fun _ => 0)))), (u3 52, .inl (K 0, 10, .inl (fun _ => 0))), (u3 53, .inl (K 0, 10, .inl (fun _ => 0))), (u3 54, .inl (K 0, 10, .inl (fun _ => 0))), (u3 55, .inl (K 0, 16, .inl (fun _ => 0))), (u3 56, .inl (K 0, 16, .inl (fun _ => 0))), (u3 57, .inl (K 1, 16, .inl (fun _ => 0))), (u3 58, .inl (K 0, 16, .inl (fun _ => 0))), (u3 59, .inl (K 0, 64, .inl (fun _ => 0))), (u3 60, .inl (K 0, 64, .inl (fun _ => 0))), (u3 61, .inl (K 0, 64, .inl (fun _ => 0))), (u3 62, .inr (2, [.ref (u3 24), .ref (u3 50), .int 0, .int 0, .ref (u3 63), .ref (u3 64), .ref (u3 69), .ref (u3 70), .ref (u3 71), .ref (u3 72), .ref (u3 73), .ref (u3 74), .ref (u3 75), .ref (u3 76)])), (u3 63, .inl (K 0, 5, .inl (fun _ => 0))), (u3 64, .inl (K 3, 4, .inr (.inr (.inr (.inr u7))))), (u3 65, .inl (K 0, 120, .inl (fun _ => 0))), (u3 66, .inl (K 0, 120, .inl (fun _ => 0))), (u3 67, .inl (K 0, 120, .inl (fun _ => 0))), (u3 68, .inl (K 0, 120, .inl (fun _ => 0))), (u3 69, .inl (K 0, 12, .inl (fun _ => 0))), (u3 70, .inl (K 0, 12, .inl (fun _ => 0))), (u3 71, .inl (K 0, 12, .inl (fun _ => 0))), (u3 72, .inl (K 0, 200, .inl (fun _ => 0))), (u3 73, .inl (K 0, 200, .inl (fun _ => 0))), (u3 74, .inl (K 0, 200, .inl (fun _ => 0))), (u3 75, .inl (K 0, 200, .inl (fun _ => 0))), (u3 76, .inl (K 0, 200, .inl (fun _ => 0))), (u3 77, .inr (0, [.ref (u3 0), .ref (u3 7), .ref (u3 78), .ref (u3 91), .ref (u3 92), .ref (u3 93), .ref (u3 94), .ref (u3 95), .int 0])), (u3 78, .inl (K 3, 12, .inr (.inr (.inr (.inr u8))))), (u3 79, .inl (K 0, 256, .inl (fun _ => 0))), (u3 80, .inl (K 0, 256, .inl (fun _ => 0))), (u3 81, .inl (K 0, 256, .inl (fun _ => 0))), (u3 82, .inl (K 0, 256, .inl (fun _ => 0))), (u3 83, .inl (K 0, 256, .inl (fun _ => 0))), (u3 84, .inl (K 0, 256, .inl (fun _ => 0))), (u3 85, .inl (K 0, 256, .inl (fun _ => 0))), (u3 86, .inl (K 0, 256, .inl (fun _ => 0))), (u3 87, .inl (K 0, 256, .inl (fun _ => 0))), (u3 88, .inl (K 0, 256, .inl (fun _ => 0))), (u3 89, .inl (K 0, 256, .inl (fun _ => 0))), (u3 90, .inl (K 0, 256, .inl (fun _ => 0))), (u3 91, .inl (K 1, 12, .inl (fun _ => 0))), (u3 92, .inl (K 0, 12, .inl (fun _ => 0))), (u3 93, .inl (K 0, 12, .inl (fun _ => 0))), (u3 94, .inl (K 0, 12, .inl (fun _ => 0))), (u3 95, .inl (K 0, 12, .inl (fun _ => 0)))]) [(q9, .inr (12, [.int 0, .int 0, .int 0, .null, .null, .null, .null, .int 0, .null, .null, .int 0, .null, .null, .null, .null, .null, .null, .null, .int 0, .null, .null, .null, .null, .null, .null, .int 0, .null, .int 0, .int 0, .int 0, .null, .int 0, .int 0, .null, .int 0, .null, .null, .null, .null, .null, .null, .null, .null, .null, .null, .null, .null, .null, .null, .null, .null, .null, .null, .null, .null, .null, .null, .null, .int 0, .int 0, .int 0, .int 0, .int 0, .long 0, .int 0, .int 0, .int 0, .int 0, .int 0, .int 0, .int 0, .null, .null, .null, .null, .null, .int 0, .int 0, .null, .null, .null, .null, .null, .null, .null, .null, .int 0, .int 0, .int 0, .int 0, .null, .null, .int 0, .null, .null, .null, .null, .null, .null]))] B hl.1 hP hD hS [97] [0, 1, 2, 3, 4, 5, 6, 7, 8, 9, 10, 11, 12, 13, 14, 15, 16, 17, 18, 19, 20, 21, 22, 23, 24, 25, 26, 27, 28, 29, 30, 31, 32, 33, 34, 35, 36, 37, 38, 39, 40, 41, 42, 43, 44, 45, 46, 47, 48, 49, 50, 51, 52, 53, 54, 55, 56, 57, 58, 59, 60, 61, 62, 63, 64, 65, 66, 67, 68, 69, 70, 71, 72, 73, 74, 75, 76, 77, 78, 79, 80, 81, 82, 83, 84, 85, 86, 87, 88, 89, 90, 91, 92, 93, 94, 95, 96] rfl rfl rfl (kX12_init_24 l D K _ q9) wd_X12_init mml_L_12 rfl rfl ⟨Nat.le_of_ble_eq_true rfl, Nat.le_of_ble_eq_true rfl⟩ (Nat.le_of_ble_eq_true rfl) ⟨Nat.le_of_ble_eq_true rfl, Nat.le_of_ble_eq_true rfl⟩ dL_law_12 (fun u H locs hw hP hD hS => ?_)
  refine W.widen (k := 164) (n := 17346) (by decide) (by decide) ?_
  obtain ⟨u11, u12, u13, u14, u15, u16, u17, u18, u19⟩ := u
  try dsimp only at hw
  rcases hw with ⟨a20, a21, a22, a23, a24⟩
  have hP : va_P D vwCl [(q1, .inr (11, [.ref (u3 0), .ref (u3 7), .ref (u3 16), .ref (u3 17), .ref (u3 24), .ref (u3 27), .ref (u3 30), .ref (u3 33), .ref (u3 62), .ref (u3 77), .ref (u3 50)])), (u3 0, .inr (9, [.ref (u3 1), .ref (u3 2), .ref (u3 3), .ref (u3 4), .ref (u3 5), .ref (u3 6), .int 4, .int 4, .int 0])), (u3 1, .inl (K 0, 256, .inl (fun _ => 0))), (u3 2, .inl (K 0, 256, .inl (fun _ => 0))), (u3 3, .inl (K 0, 4, .inl (fun _ => 0))), (u3 4, .inl (K 0, 4, .inl (fun _ => 0))), (u3 5, .inl (K 0, 24, .inl u4)), (u3 6, .inl (K 0, 24, .inl u5)), (u3 7, .inr (4, [.ref (u3 0), .ref (u3 8), .ref (u3 9), .ref (u3 10), .ref (u3 11), .ref (u3 12), .ref (u3 13), .ref (u3 14), .ref (u3 15), .int 0])), (u3 8, .inl (K 0, 12, .inl (fun _ => 0))), (u3 9, .inl (K 0, 12, .inl (fun _ => 0))), (u3 10, .inl (K 0, 12, .inl (fun _ => 0))), (u3 11, .inl (K 0, 12, .inl (fun _ => 0))), (u3 12, .inl (K 0, 12, .inl (fun _ => 0))), (u3 13, .inl (K 0, 12, .inl (fun _ => 0))), (u3 14, .inl (K 0, 12, .inl (fun _ => 0))), (u3 15, .inl (K 0, 12, .inl (fun _ => 0))), (u3 16, .inr (8, [.ref (u3 0), .ref (u3 7)])), (u3 17, .inr (3, [.ref (u3 18), .ref (u3 19), .ref (u3 20), .ref (u3 21), .ref (u3 22), .ref (u3 23), .int 0, .int (-1), .int 1, .int 0])), (u3 18, .inl (K 0, 60, .inl (fun _ => 0))), (u3 19, .inl (K 0, 60, .inl (fun _ => 0))), (u3 20, .inl (K 0, 60, .inl (fun _ => 0))), (u3 21, .inl (K 1, 60, .inl (fun _ => 0))), (u3 22, .inl (K 0, 24, .inl (fun _ => 0))), (u3 23, .inl (K 0, 24, .inl (fun _ => 0))), (u3 24, .inr (1, [.ref (u3 7), .ref (u3 17), .ref (u3 16), .ref (u3 25), .ref (u3 26), .int 0, .int 0])), (u3 25, .inl (K 0, 12, .inl (fun _ => 0))), (u3 26, .inl (K 0, 12, .inl (fun _ => 0))), (u3 27, .inr (6, [.ref (u3 28), .ref (u3 29), .int 0, .int (-1), .int 0])), (u3 28, .inl (K 0, 252, .inl (fun _ => 0))), (u3 29, .inl (K 0, 12, .inl (fun _ => 0))), (u3 30, .inr (10, [.ref (u3 31), .ref (u3 32), .int 0, .int 0, .int 0, .int 0, .int 0, .int 0, .long 0, .int (-1)])), (u3 31, .inl (K 0, 1000, .inl (fun _ => 0))), (u3 32, .inl (K 2, 13, .inr (.inl u6))), (u3 33, .inr (5, [.ref (u3 30), .ref (u3 34), .ref (u3 35), .ref (u3 36), .ref (u3 37), .ref (u3 38), .int 0, .int 0, .int 0, .int (-1)])), (u3 34, .inl (K 2, 16, .inr (.inl (fun _ => 0)))), (u3 35, .inl (K 0, 16, .inl (fun _ => 0))), (u3 36, .inl (K 2, 64, .inr (.inl (fun _ => 0)))), (u3 37, .inl (K 0, 64, .inl (fun _ => 0))), (u3 38, .inr (7, [.ref (u3 39), .ref (u3 40), .ref (u3 41), .ref (u3 42), .ref (u3 43), .ref (u3 44), .ref (u3 45), .ref (u3 46), .ref (u3 47), .ref (u3 48), .ref (u3 49), .int 0, .int 0, .int 0, .int 2, .int 1])), (u3 39, .inl (K 2, 10, .inr (.inl (fun _ => 0)))), (u3 40, .inl (K 0, 10, .inl (fun _ => 0))), (u3 41, .inl (K 0, 10, .inl (fun _ => 0))), (u3 42, .inl (K 0, 10, .inl (fun _ => 0))), (u3 43, .inl (K 0, 16, .inl (fun _ => 0))), (u3 44, .inl (K 0, 16, .inl (fun _ => 0))), (u3 45, .inl (K 1, 16, .inl (fun _ => 0))), (u3 46, .inl (K 0, 16, .inl (fun _ => 0))), (u3 47, .inl (K 0, 64, .inl (fun _ => 0))), (u3 48, .inl (K 0, 64, .inl (fun _ => 0))), (u3 49, .inl (K 0, 64, .inl (fun _ => 0))), (u3 50, .inr (7, [.ref (u3 51), .ref (u3 52), .ref (u3 53), .ref (u3 54), .ref (u3 55), .ref (u3 56), .ref (u3 57), .ref (u3 58), .ref (u3 59), .ref (u3 60), .ref (u3 61), .int 0, .int 0, .int 0, .int 2, .int 1])), (u3 51, .inl (K 2, 10, .inr (.inl (fun _ => 0)))), (u3 52, .inl (K 0, 10, .inl (fun _ => 0))), (u3 53, .inl (K 0, 10, .inl (fun _ => 0))), (u3 54, .inl (K 0, 10, .inl (fun _ => 0))), (u3 55, .inl (K 0, 16, .inl (fun _ => 0))), (u3 56, .inl (K 0, 16, .inl (fun _ => 0))), (u3 57, .inl (K 1, 16, .inl (fun _ => 0))), (u3 58, .inl (K 0, 16, .inl (fun _ => 0))), (u3 59, .inl (K 0, 64, .inl (fun _ => 0))), (u3 60, .inl (K 0, 64, .inl (fun _ => 0))), (u3 61, .inl (K 0, 64, .inl (fun _ => 0))), (u3 62, .inr (2, [.ref (u3 24), .ref (u3 50), .int 0, .int 0, .ref (u3 63), .ref (u3 64), .ref (u3 69), .ref (u3 70), .ref (u3 71), .ref (u3 72), .ref (u3 73), .ref (u3 74), .ref (u3 75), .ref (u3 76)])), (u3 63, .inl (K 0, 5, .inl (fun _ => 0))), (u3 64, .inl (K 3, 4, .inr (.inr (.inr (.inr u7))))), (u3 65, .inl (K 0, 120, .inl (fun _ => 0))), (u3 66, .inl (K 0, 120, .inl (fun _ => 0))), (u3 67, .inl (K 0, 120, .inl (fun _ => 0))), (u3 68, .inl (K 0, 120, .inl (fun _ => 0))), (u3 69, .inl (K 0, 12, .inl (fun _ => 0))), (u3 70, .inl (K 0, 12, .inl (fun _ => 0))), (u3 71, .inl (K 0, 12, .inl (fun _ => 0))), (u3 72, .inl (K 0, 200, .inl (fun _ => 0))), (u3 73, .inl (K 0, 200, .inl (fun _ => 0))), (u3 74, .inl (K 0, 200, .inl (fun _ => 0))), (u3 75, .inl (K 0, 200, .inl (fun _ => 0))), (u3 76, .inl (K 0, 200, .inl (fun _ => 0))), (u3 77, .inr (0, [.ref (u3 0), .ref (u3 7), .ref (u3 78), .ref (u3 91), .ref (u3 92), .ref (u3 93), .ref (u3 94), .ref (u3 95), .int 0])), (u3 78, .inl (K 3, 12, .inr (.inr (.inr (.inr u8))))), (u3 79, .inl (K 0, 256, .inl (fun _ => 0))), (u3 80, .inl (K 0, 256, .inl (fun _ => 0))), (u3 81, .inl (K 0, 256, .inl (fun _ => 0))), (u3 82, .inl (K 0, 256, .inl (fun _ => 0))), (u3 83, .inl (K 0, 256, .inl (fun _ => 0))), (u3 84, .inl (K 0, 256, .inl (fun _ => 0))), (u3 85, .inl (K 0, 256, .inl (fun _ => 0))), (u3 86, .inl (K 0, 256, .inl (fun _ => 0))), (u3 87, .inl (K 0, 256, .inl (fun _ => 0))), (u3 88, .inl (K 0, 256, .inl (fun _ => 0))), (u3 89, .inl (K 0, 256, .inl (fun _ => 0))), (u3 90, .inl (K 0, 256, .inl (fun _ => 0))), (u3 91, .inl (K 1, 12, .inl (fun _ => 0))), (u3 92, .inl (K 0, 12, .inl (fun _ => 0))), (u3 93, .inl (K 0, 12, .inl (fun _ => 0))), (u3 94, .inl (K 0, 12, .inl (fun _ => 0))), (u3 95, .inl (K 0, 12, .inl (fun _ => 0))), (q9, .inr (12, [.int 0, .int 4, .int 4, .ref (u11 0), .ref (u11 1), .ref (u11 2), .ref (u11 3), .int 0, .ref (u11 4), .ref (u11 5), .int 0, .ref (u11 6), .ref (u11 7), .ref (u11 8), .ref (u11 9), .ref (u11 10), .ref (u11 11), .ref (u11 12), .int 0, .ref (u11 13), .ref (u11 14), .ref (u11 15), .ref (u11 16), .ref (u11 17), .ref (u11 18), .int 0, .ref (u11 19), .int 0, .int 0, .int 0, .ref (u11 20), .int 0, .int 0, .ref (u11 21), .int 0, .ref (u11 60), .ref (u11 22), .ref (u11 23), .ref (u11 24), .ref (u11 61), .ref (u11 25), .ref (u11 26), .ref (u11 62), .ref (u11 63), .ref (u11 64), .ref (u11 27), .ref (u11 28), .ref (u11 29), .ref (u11 30), .ref (u11 31), .ref (u11 32), .ref (u11 33), .ref (u11 34), .ref (u11 35), .ref (u11 36), .ref (u11 37), .ref (u11 38), .ref (u11 65), .int 0, .int 0, .int 0, .int 0, .int 0, .long 0, .int 0, .int 0, .int 0, .int 0, .int 0, .int (-1), .int 0, .ref (u11 39), .ref (u11 40), .ref (u11 41), .ref (u11 42), .ref (u11 43), .int 0, .int 0, .ref (u11 44), .ref (u11 45), .ref (u11 46), .ref (u11 47), .ref (u11 48), .ref (u11 49), .ref (u11 50), .ref (u11 51), .int 0, .int 0, .int 0, .int 0, .ref (u11 52), .ref (u11 53), .int 0, .ref (u11 54), .ref (u11 55), .ref (u11 56), .ref (u11 57), .ref (u11 58), .ref (u11 59)])), (u11 0, .inl (K 0, 256, .inl (fun _ => 0))), (u11 1, .inl (K 0, 256, .inl (fun _ => 0))), (u11 2, .inl (K 0, 4, .inl (fun _ => 0))), (u11 3, .inl (K 0, 4, .inl (fun _ => 0))), (u11 4, .inl (K 0, 24, .inl u12)), (u11 5, .inl (K 0, 24, .inl u13)), (u11 6, .inl (K 0, 12, .inl (fun _ => 0))), (u11 7, .inl (K 0, 12, .inl (fun _ => 0))), (u11 8, .inl (K 0, 12, .inl (fun _ => 0))), (u11 9, .inl (K 0, 12, .inl (fun _ => 0))), (u11 10, .inl (K 0, 12, .inl (fun _ => 0))), (u11 11, .inl (K 0, 12, .inl (fun _ => 0))), (u11 12, .inl (K 0, 12, .inl (fun _ => 0))), (u11 13, .inl (K 0, 60, .inl (fun _ => 0))), (u11 14, .inl (K 0, 60, .inl (fun _ => 0))), (u11 15, .inl (K 0, 60, .inl (fun _ => 0))), (u11 16, .inl (K 1, 60, .inl (fun _ => 0))), (u11 17, .inl (K 0, 24, .inl (fun _ => 0))), (u11 18, .inl (K 0, 24, .inl (fun _ => 0))), (u11 19, .inl (K 0, 12, .inl (fun _ => 0))), (u11 20, .inl (K 0, 4096, .inl (fun _ => 0))), (u11 21, .inl (K 0, 1000, .inl (fun _ => 0))), (u11 22, .inl (K 2, 20, .inr (.inl (fun _ => 0)))), (u11 23, .inl (K 0, 20, .inl (fun _ => 0))), (u11 24, .inl (K 0, 100, .inl (fun _ => 0))), (u11 25, .inl (K 0, 16, .inl (fun _ => 0))), (u11 26, .inl (K 0, 16, .inl (fun _ => 0))), (u11 27, .inl (K 0, 32, .inl (fun _ => 0))), (u11 28, .inl (K 2, 32, .inr (.inl (fun _ => 0)))), (u11 29, .inl (K 0, 32, .inl (fun _ => 0))), (u11 30, .inl (K 0, 32, .inl (fun _ => 0))), (u11 31, .inl (K 1, 32, .inl (fun _ => 0))), (u11 32, .inl (K 0, 32, .inl (fun _ => 0))), (u11 33, .inl (K 0, 128, .inl (fun _ => 0))), (u11 34, .inl (K 2, 128, .inr (.inl (fun _ => 0)))), (u11 35, .inl (K 0, 128, .inl (fun _ => 0))), (u11 36, .inl (K 0, 128, .inl (fun _ => 0))), (u11 37, .inl (K 0, 128, .inl (fun _ => 0))), (u11 38, .inl (K 0, 128, .inl (fun _ => 0))), (u11 39, .inl (K 0, 200, .inl (fun _ => 0))), (u11 40, .inl (K 0, 200, .inl (fun _ => 0))), (u11 41, .inl (K 0, 200, .inl (fun _ => 0))), (u11 42, .inl (K 0, 200, .inl (fun _ => 0))), (u11 43, .inl (K 1, 200, .inl (fun _ => 0))), (u11 44, .inl (K 0, 120, .inl (fun _ => 0))), (u11 45, .inl (K 0, 120, .inl (fun _ => 0))), (u11 46, .inl (K 0, 120, .inl (fun _ => 0))), (u11 47, .inl (K 0, 120, .inl (fun _ => 0))), (u11 48, .inl (K 0, 12, .inl (fun _ => 0))), (u11 49, .inl (K 0, 12, .inl (fun _ => 0))), (u11 50, .inl (K 0, 12, .inl (fun _ => 0))), (u11 51, .inl (K 0, 12, .inl (fun _ => 0))), (u11 52, .inl (K 0, 256, .inl (fun _ => 0))), (u11 53, .inl (K 1, 256, .inl (fun _ => 0))), (u11 54, .inl (K 0, 144, .inl (fun _ => 0))), (u11 55, .inl (K 0, 12, .inl (fun _ => 0))), (u11 56, .inl (K 0, 12, .inl (fun _ => 0))), (u11 57, .inl (K 0, 12, .inl (fun _ => 0))), (u11 58, .inl (K 1, 12, .inl (fun _ => 0))), (u11 59, .inl (K 1, 12, .inl (fun _ => 0))), (u11 60, .inl (K 0, 2, .inl u14)), (u11 61, .inl (K 0, 2, .inl u15)), (u11 62, .inl (K 0, 2, .inl u16)), (u11 63, .inl (K 0, 2, .inl u17)), (u11 64, .inl (K 0, 2, .inl u18)), (u11 65, .inl (K 0, 10, .inl u19))] H := hP
  have hD : va_D A [(q1, .inr (11, [.ref (u3 0), .ref (u3 7), .ref (u3 16), .ref (u3 17), .ref (u3 24), .ref (u3 27), .ref (u3 30), .ref (u3 33), .ref (u3 62), .ref (u3 77), .ref (u3 50)])), (u3 0, .inr (9, [.ref (u3 1), .ref (u3 2), .ref (u3 3), .ref (u3 4), .ref (u3 5), .ref (u3 6), .int 4, .int 4, .int 0])), (u3 1, .inl (K 0, 256, .inl (fun _ => 0))), (u3 2, .inl (K 0, 256, .inl (fun _ => 0))), (u3 3, .inl (K 0, 4, .inl (fun _ => 0))), (u3 4, .inl (K 0, 4, .inl (fun _ => 0))), (u3 5, .inl (K 0, 24, .inl u4)), (u3 6, .inl (K 0, 24, .inl u5)), (u3 7, .inr (4, [.ref (u3 0), .ref (u3 8), .ref (u3 9), .ref (u3 10), .ref (u3 11), .ref (u3 12), .ref (u3 13), .ref (u3 14), .ref (u3 15), .int 0])), (u3 8, .inl (K 0, 12, .inl (fun _ => 0))), (u3 9, .inl (K 0, 12, .inl (fun _ => 0))), (u3 10, .inl (K 0, 12, .inl (fun _ => 0))), (u3 11, .inl (K 0, 12, .inl (fun _ => 0))), (u3 12, .inl (K 0, 12, .inl (fun _ => 0))), (u3 13, .inl (K 0, 12, .inl (fun _ => 0))), (u3 14, .inl (K 0, 12, .inl (fun _ => 0))), (u3 15, .inl (K 0, 12, .inl (fun _ => 0))), (u3 16, .inr (8, [.ref (u3 0), .ref (u3 7)])), (u3 17, .inr (3, [.ref (u3 18), .ref (u3 19), .ref (u3 20), .ref (u3 21), .ref (u3 22), .ref (u3 23), .int 0, .int (-1), .int 1, .int 0])), (u3 18, .inl (K 0, 60, .inl (fun _ => 0))), (u3 19, .inl (K 0, 60, .inl (fun _ => 0))), (u3 20, .inl (K 0, 60, .inl (fun _ => 0))), (u3 21, .inl (K 1, 60, .inl (fun _ => 0))), (u3 22, .inl (K 0, 24, .inl (fun _ => 0))), (u3 23, .inl (K 0, 24, .inl (fun _ => 0))), (u3 24, .inr (1, [.ref (u3 7), .ref (u3 17), .ref (u3 16), .ref (u3 25), .ref (u3 26), .int 0, .int 0])), (u3 25, .inl (K 0, 12, .inl (fun _ => 0))), (u3 26, .inl (K 0, 12, .inl (fun _ => 0))), (u3 27, .inr (6, [.ref (u3 28), .ref (u3 29), .int 0, .int (-1), .int 0])), (u3 28, .inl (K 0, 252, .inl (fun _ => 0))), (u3 29, .inl (K 0, 12, .inl (fun _ => 0))), (u3 30, .inr (10, [.ref (u3 31), .ref (u3 32), .int 0, .int 0, .int 0, .int 0, .int 0, .int 0, .long 0, .int (-1)])), (u3 31, .inl (K 0, 1000, .inl (fun _ => 0))), (u3 32, .inl (K 2, 13, .inr (.inl u6))), (u3 33, .inr (5, [.ref (u3 30), .ref (u3 34), .ref (u3 35), .ref (u3 36), .ref (u3 37), .ref (u3 38), .int 0, .int 0, .int 0, .int (-1)])), (u3 34, .inl (K 2, 16, .inr (.inl (fun _ => 0)))), (u3 35, .inl (K 0, 16, .inl (fun _ => 0))), (u3 36, .inl (K 2, 64, .inr (.inl (fun _ => 0)))), (u3 37, .inl (K 0, 64, .inl (fun _ => 0))), (u3 38, .inr (7, [.ref (u3 39), .ref (u3 40), .ref (u3 41), .ref (u3 42), .ref (u3 43), .ref (u3 44), .ref (u3 45), .ref (u3 46), .ref (u3 47), .ref (u3 48), .ref (u3 49), .int 0, .int 0, .int 0, .int 2, .int 1])), (u3 39, .inl (K 2, 10, .inr (.inl (fun _ => 0)))), (u3 40, .inl (K 0, 10, .inl (fun _ => 0))), (u3 41, .inl (K 0, 10, .inl (fun _ => 0))), (u3 42, .inl (K 0, 10, .inl (fun _ => 0))), (u3 43, .inl (K 0, 16, .inl (fun _ => 0))), (u3 44, .inl (K 0, 16, .inl (fun _ => 0))), (u3 45, .inl (K 1, 16, .inl (fun _ => 0))), (u3 46, .inl (K 0, 16, .inl (fun _ => 0))), (u3 47, .inl (K 0, 64, .inl (fun _ => 0))), (u3 48, .inl (K 0, 64, .inl (fun _ => 0))), (u3 49, .inl (K 0, 64, .inl (fun _ => 0))), (u3 50, .inr (7, [.ref (u3 51), .ref (u3 52), .ref (u3 53), .ref (u3 54), .ref (u3 55), .ref (u3 56), .ref (u3 57), .ref (u3 58), .ref (u3 59), .ref (u3 60), .ref (u3 61), .int 0, .int 0, .int 0, .int 2, .int 1])), (u3 51, .inl (K 2, 10, .inr (.inl (fun _ => 0)))), (u3 52, .inl (K 0, 10, .inl (fun _ => 0))), (u3 53, .inl (K 0, 10, .inl (fun _ => 0))), (u3 54, .inl (K 0, 10, .inl (fun _ => 0))), (u3 55, .inl (K 0, 16, .inl (fun _ => 0))), (u3 56, .inl (K 0, 16, .inl (fun _ => 0))), (u3 57, .inl (K 1, 16, .inl (fun _ => 0))), (u3 58, .inl (K 0, 16, .inl (fun _ => 0))), (u3 59, .inl (K 0, 64, .inl (fun _ => 0))), (u3 60, .inl (K 0, 64, .inl (fun _ => 0))), (u3 61, .inl (K 0, 64, .inl (fun _ => 0))), (u3 62, .inr (2, [.ref (u3 24), .ref (u3 50), .int 0, .int 0, .ref (u3 63), .ref (u3 64), .ref (u3 69), .ref (u3 70), .ref (u3 71), .ref (u3 72), .ref (u3 73), .ref (u3 74), .ref (u3 75), .ref (u3 76)])), (u3 63, .inl (K 0, 5, .inl (fun _ => 0))), (u3 64, .inl (K 3, 4, .inr (.inr (.inr (.inr u7))))), (u3 65, .inl (K 0, 120, .inl (fun _ => 0))), (u3 66, .inl (K 0, 120, .inl (fun _ => 0))), (u3 67, .inl (K 0, 120, .inl (fun _ => 0))), (u3 68, .inl (K 0, 120, .inl (fun _ => 0))), (u3 69, .inl (K 0, 12, .inl (fun _ => 0))), (u3 70, .inl (K 0, 12, .inl (fun _ => 0))), (u3 71, .inl (K 0, 12, .inl (fun _ => 0))), (u3 72, .inl (K 0, 200, .inl (fun _ => 0))), (u3 73, .inl (K 0, 200, .inl (fun _ => 0))), (u3 74, .inl (K 0, 200, .inl (fun _ => 0))), (u3 75, .inl (K 0, 200, .inl (fun _ => 0))), (u3 76, .inl (K 0, 200, .inl (fun _ => 0))), (u3 77, .inr (0, [.ref (u3 0), .ref (u3 7), .ref (u3 78), .ref (u3 91), .ref (u3 92), .ref (u3 93), .ref (u3 94), .ref (u3 95), .int 0])), (u3 78, .inl (K 3, 12, .inr (.inr (.inr (.inr u8))))), (u3 79, .inl (K 0, 256, .inl (fun _ => 0))), (u3 80, .inl (K 0, 256, .inl (fun _ => 0))), (u3 81, .inl (K 0, 256, .inl (fun _ => 0))), (u3 82, .inl (K 0, 256, .inl (fun _ => 0))), (u3 83, .inl (K 0, 256, .inl (fun _ => 0))), (u3 84, .inl (K 0, 256, .inl (fun _ => 0))), (u3 85, .inl (K 0, 256, .inl (fun _ => 0))), (u3 86, .inl (K 0, 256, .inl (fun _ => 0))), (u3 87, .inl (K 0, 256, .inl (fun _ => 0))), (u3 88, .inl (K 0, 256, .inl (fun _ => 0))), (u3 89, .inl (K 0, 256, .inl (fun _ => 0))), (u3 90, .inl (K 0, 256, .inl (fun _ => 0))), (u3 91, .inl (K 1, 12, .inl (fun _ => 0))), (u3 92, .inl (K 0, 12, .inl (fun _ => 0))), (u3 93, .inl (K 0, 12, .inl (fun _ => 0))), (u3 94, .inl (K 0, 12, .inl (fun _ => 0))), (u3 95, .inl (K 0, 12, .inl (fun _ => 0))), (q9, .inr (12, [.int 0, .int 4, .int 4, .ref (u11 0), .ref (u11 1), .ref (u11 2), .ref (u11 3), .int 0, .ref (u11 4), .ref (u11 5), .int 0, .ref (u11 6), .ref (u11 7), .ref (u11 8), .ref (u11 9), .ref (u11 10), .ref (u11 11), .ref (u11 12), .int 0, .ref (u11 13), .ref (u11 14), .ref (u11 15), .ref (u11 16), .ref (u11 17), .ref (u11 18), .int 0, .ref (u11 19), .int 0, .int 0, .int 0, .ref (u11 20), .int 0, .int 0, .ref (u11 21), .int 0, .ref (u11 60), .ref (u11 22), .ref (u11 23), .ref (u11 24), .ref (u11 61), .ref (u11 25), .ref (u11 26), .ref (u11 62), .ref (u11 63), .ref (u11 64), .ref (u11 27), .ref (u11 28), .ref (u11 29), .ref (u11 30), .ref (u11 31), .ref (u11 32), .ref (u11 33), .ref (u11 34), .ref (u11 35), .ref (u11 36), .ref (u11 37), .ref (u11 38), .ref (u11 65), .int 0, .int 0, .int 0, .int 0, .int 0, .long 0, .int 0, .int 0, .int 0, .int 0, .int 0, .int (-1), .int 0, .ref (u11 39), .ref (u11 40), .ref (u11 41), .ref (u11 42), .ref (u11 43), .int 0, .int 0, .ref (u11 44), .ref (u11 45), .ref (u11 46), .ref (u11 47), .ref (u11 48), .ref (u11 49), .ref (u11 50), .ref (u11 51), .int 0, .int 0, .int 0, .int 0, .ref (u11 52), .ref (u11 53), .int 0, .ref (u11 54), .ref (u11 55), .ref (u11 56), .ref (u11 57), .ref (u11 58), .ref (u11 59)])), (u11 0, .inl (K 0, 256, .inl (fun _ => 0))), (u11 1, .inl (K 0, 256, .inl (fun _ => 0))), (u11 2, .inl (K 0, 4, .inl (fun _ => 0))), (u11 3, .inl (K 0, 4, .inl (fun _ => 0))), (u11 4, .inl (K 0, 24, .inl u12)), (u11 5, .inl (K 0, 24, .inl u13)), (u11 6, .inl (K 0, 12, .inl (fun _ => 0))), (u11 7, .inl (K 0, 12, .inl (fun _ => 0))), (u11 8, .inl (K 0, 12, .inl (fun _ => 0))), (u11 9, .inl (K 0, 12, .inl (fun _ => 0))), (u11 10, .inl (K 0, 12, .inl (fun _ => 0))), (u11 11, .inl (K 0, 12, .inl (fun _ => 0))), (u11 12, .inl (K 0, 12, .inl (fun _ => 0))), (u11 13, .inl (K 0, 60, .inl (fun _ => 0))), (u11 14, .inl (K 0, 60, .inl (fun _ => 0))), (u11 15, .inl (K 0, 60, .inl (fun _ => 0))), (u11 16, .inl (K 1, 60, .inl (fun _ => 0))), (u11 17, .inl (K 0, 24, .inl (fun _ => 0))), (u11 18, .inl (K 0, 24, .inl (fun _ => 0))), (u11 19, .inl (K 0, 12, .inl (fun _ => 0))), (u11 20, .inl (K 0, 4096, .inl (fun _ => 0))), (u11 21, .inl (K 0, 1000, .inl (fun _ => 0))), (u11 22, .inl (K 2, 20, .inr (.inl (fun _ => 0)))), (u11 23, .inl (K 0, 20, .inl (fun _ => 0))), (u11 24, .inl (K 0, 100, .inl (fun _ => 0))), (u11 25, .inl (K 0, 16, .inl (fun _ => 0))), (u11 26, .inl (K 0, 16, .inl (fun _ => 0))), (u11 27, .inl (K 0, 32, .inl (fun _ => 0))), (u11 28, .inl (K 2, 32, .inr (.inl (fun _ => 0)))), (u11 29, .inl (K 0, 32, .inl (fun _ => 0))), (u11 30, .inl (K 0, 32, .inl (fun _ => 0))), (u11 31, .inl (K 1, 32, .inl (fun _ => 0))), (u11 32, .inl (K 0, 32, .inl (fun _ => 0))), (u11 33, .inl (K 0, 128, .inl (fun _ => 0))), (u11 34, .inl (K 2, 128, .inr (.inl (fun _ => 0)))), (u11 35, .inl (K 0, 128, .inl (fun _ => 0))), (u11 36, .inl (K 0, 128, .inl (fun _ => 0))), (u11 37, .inl (K 0, 128, .inl (fun _ => 0))), (u11 38, .inl (K 0, 128, .inl (fun _ => 0))), (u11 39, .inl (K 0, 200, .inl (fun _ => 0))), (u11 40, .inl (K 0, 200, .inl (fun _ => 0))), (u11 41, .inl (K 0, 200, .inl (fun _ => 0))), (u11 42, .inl (K 0, 200, .inl (fun _ => 0))), (u11 43, .inl (K 1, 200, .inl (fun _ => 0))), (u11 44, .inl (K 0, 120, .inl (fun _ => 0))), (u11 45, .inl (K 0, 120, .inl (fun _ => 0))), (u11 46, .inl (K 0, 120, .inl (fun _ => 0))), (u11 47, .inl (K 0, 120, .inl (fun _ => 0))), (u11 48, .inl (K 0, 12, .inl (fun _ => 0))), (u11 49, .inl (K 0, 12, .inl (fun _ => 0))), (u11 50, .inl (K 0, 12, .inl (fun _ => 0))), (u11 51, .inl (K 0, 12, .inl (fun _ => 0))), (u11 52, .inl (K 0, 256, .inl (fun _ => 0))), (u11 53, .inl (K 1, 256, .inl (fun _ => 0))), (u11 54, .inl (K 0, 144, .inl (fun _ => 0))), (u11 55, .inl (K 0, 12, .inl (fun _ => 0))), (u11 56, .inl (K 0, 12, .inl (fun _ => 0))), (u11 57, .inl (K 0, 12, .inl (fun _ => 0))), (u11 58, .inl (K 1, 12, .inl (fun _ => 0))), (u11 59, .inl (K 1, 12, .inl (fun _ => 0))), (u11 60, .inl (K 0, 2, .inl u14)), (u11 61, .inl (K 0, 2, .inl u15)), (u11 62, .inl (K 0, 2, .inl u16)), (u11 63, .inl (K 0, 2, .inl u17)), (u11 64, .inl (K 0, 2, .inl u18)), (u11 65, .inl (K 0, 10, .inl u19))] := hD
  refine lv_astore_n (lv' := [(2, .ref q9), (1, .ref q1), (0, .ref b)]) hx hb dL_law_15 rfl hl (by decide) rfl (fun ls hl => ?_)
  refine lv_iconst (v := 0) hx hb dL_law_16 (by decide) ?_
  refine lv_istore_n (lv' := [(3, .int 0), (2, .ref q9), (1, .ref q1), (0, .ref b)]) hx hb dL_law_17 rfl hl (by decide) rfl (fun ls hl => ?_)
  by_cases h7 : L = 7
  · subst h7
    refine lv_pc (q := 18) rfl ?_
    refine lv_iload_n hx hb dL_law_18 rfl (lv_at hl 0 rfl) ?_
    refine lv_aload_n hx hb dL_law_19 rfl (lv_at hl 3 rfl) ?_
    refine va_slen hx hb hX hbl hbA hS dL_law_20 ?_
    refine lv_fixi (y := 7) (by decide) ?_
    refine lv_bipush (v := 7) hx hb dL_law_21 (by decide) ?_
    refine lv_isub hx hb dL_law_23 ?_
    refine lv_fixi (y := 0) (by decide) ?_
    refine lv_icmp_gt (tgt := 1480) hx hb dL_law_24 (by decide) (fun h9 => absurd h9 (by decide)) (fun _ => ?_)
    refine lv_pc (q := 27) rfl ?_
    refine lv_aload_n hx hb dL_law_27 rfl (lv_at hl 3 rfl) ?_
    refine lv_iload_n hx hb dL_law_28 rfl (lv_at hl 0 rfl) ?_
    refine va_sld (i := 0) hx hb hX hbl hbA hS (by show ¬ (_ ∨ _); decide) dL_law_29 ?_
    refine lv_fixi (y := (xs 0)) rfl ?_
    refine lv_bipush (v := 31) hx hb dL_law_30 (by decide) ?_
    refine lv_iand hx hb dL_law_32 ?_
    obtain ⟨jj, hjj, ejj⟩ := pk_andE (xs 0) (m := 31) 5 rfl
    have hjc : jj = 0 ∨ jj = 1 ∨ jj = 2 ∨ jj = 3 ∨ jj = 4 ∨ jj = 5 ∨ jj = 6 ∨ jj = 7 ∨ jj = 8 ∨ jj = 9 ∨ jj = 10 ∨ jj = 11 ∨ jj = 12 ∨ jj = 13 ∨ jj = 14 ∨ jj = 15 ∨ jj = 16 ∨ jj = 17 ∨ jj = 18 ∨ jj = 19 ∨ jj = 20 ∨ jj = 21 ∨ jj = 22 ∨ jj = 23 ∨ jj = 24 ∨ jj = 25 ∨ jj = 26 ∨ jj = 27 ∨ jj = 28 ∨ jj = 29 ∨ jj = 30 ∨ jj = 31 := by omega
    rcases hjc with rfl | rfl | rfl | rfl | rfl | rfl | rfl | rfl | rfl | rfl | rfl | rfl | rfl | rfl | rfl | rfl | rfl | rfl | rfl | rfl | rfl | rfl | rfl | rfl | rfl | rfl | rfl | rfl | rfl | rfl | rfl | rfl
    · refine lv_fixi (y := 0) ejj ?_
      refine lv_tableIn (off := 143) (tgt := 176) hx hb dL_law_33 (by decide) (by decide) rfl (by decide) ?_
      replace hP := uSub (wc := [(q1, .inr (11, [.ref (u3 0), .ref (u3 7), .ref (u3 16), .ref (u3 17), .ref (u3 24), .ref (u3 27), .ref (u3 30), .ref (u3 33), .ref (u3 62), .ref (u3 77), .ref (u3 50)])), (u3 0, .inr (9, [.ref (u3 1), .ref (u3 2), .ref (u3 3), .ref (u3 4), .ref (u3 5), .ref (u3 6), .int 4, .int 4, .int 0])), (u3 1, .inl (K 0, 256, .inl (fun _ => 0))), (u3 2, .inl (K 0, 256, .inl (fun _ => 0))), (u3 7, .inr (4, [.ref (u3 0), .ref (u3 8), .ref (u3 9), .ref (u3 10), .ref (u3 11), .ref (u3 12), .ref (u3 13), .ref (u3 14), .ref (u3 15), .int 0])), (u3 17, .inr (3, [.ref (u3 18), .ref (u3 19), .ref (u3 20), .ref (u3 21), .ref (u3 22), .ref (u3 23), .int 0, .int (-1), .int 1, .int 0])), (u3 27, .inr (6, [.ref (u3 28), .ref (u3 29), .int 0, .int (-1), .int 0])), (u3 62, .inr (2, [.ref (u3 24), .ref (u3 50), .int 0, .int 0, .ref (u3 63), .ref (u3 64), .ref (u3 69), .ref (u3 70), .ref (u3 71), .ref (u3 72), .ref (u3 73), .ref (u3 74), .ref (u3 75), .ref (u3 76)])), (u3 77, .inr (0, [.ref (u3 0), .ref (u3 7), .ref (u3 78), .ref (u3 91), .ref (u3 92), .ref (u3 93), .ref (u3 94), .ref (u3 95), .int 0])), (u3 91, .inl (K 1, 12, .inl (fun _ => 0))), (q9, .inr (12, [.int 0, .int 4, .int 4, .ref (u11 0), .ref (u11 1), .ref (u11 2), .ref (u11 3), .int 0, .ref (u11 4), .ref (u11 5), .int 0, .ref (u11 6), .ref (u11 7), .ref (u11 8), .ref (u11 9), .ref (u11 10), .ref (u11 11), .ref (u11 12), .int 0, .ref (u11 13), .ref (u11 14), .ref (u11 15), .ref (u11 16), .ref (u11 17), .ref (u11 18), .int 0, .ref (u11 19), .int 0, .int 0, .int 0, .ref (u11 20), .int 0, .int 0, .ref (u11 21), .int 0, .ref (u11 60), .ref (u11 22), .ref (u11 23), .ref (u11 24), .ref (u11 61), .ref (u11 25), .ref (u11 26), .ref (u11 62), .ref (u11 63), .ref (u11 64), .ref (u11 27), .ref (u11 28), .ref (u11 29), .ref (u11 30), .ref (u11 31), .ref (u11 32), .ref (u11 33), .ref (u11 34), .ref (u11 35), .ref (u11 36), .ref (u11 37), .ref (u11 38), .ref (u11 65), .int 0, .int 0, .int 0, .int 0, .int 0, .long 0, .int 0, .int 0, .int 0, .int 0, .int 0, .int (-1), .int 0, .ref (u11 39), .ref (u11 40), .ref (u11 41), .ref (u11 42), .ref (u11 43), .int 0, .int 0, .ref (u11 44), .ref (u11 45), .ref (u11 46), .ref (u11 47), .ref (u11 48), .ref (u11 49), .ref (u11 50), .ref (u11 51), .int 0, .int 0, .int 0, .int 0, .ref (u11 52), .ref (u11 53), .int 0, .ref (u11 54), .ref (u11 55), .ref (u11 56), .ref (u11 57), .ref (u11 58), .ref (u11 59)])), (u11 0, .inl (K 0, 256, .inl (fun _ => 0))), (u11 1, .inl (K 0, 256, .inl (fun _ => 0)))]) hP [0, 1, 2, 3, 8, 18, 28, 63, 78, 92, 97, 98, 99] rfl
      replace hD := hD.sub (ws' := [(q1, .inr (11, [.ref (u3 0), .ref (u3 7), .ref (u3 16), .ref (u3 17), .ref (u3 24), .ref (u3 27), .ref (u3 30), .ref (u3 33), .ref (u3 62), .ref (u3 77), .ref (u3 50)])), (u3 0, .inr (9, [.ref (u3 1), .ref (u3 2), .ref (u3 3), .ref (u3 4), .ref (u3 5), .ref (u3 6), .int 4, .int 4, .int 0])), (u3 1, .inl (K 0, 256, .inl (fun _ => 0))), (u3 2, .inl (K 0, 256, .inl (fun _ => 0))), (u3 7, .inr (4, [.ref (u3 0), .ref (u3 8), .ref (u3 9), .ref (u3 10), .ref (u3 11), .ref (u3 12), .ref (u3 13), .ref (u3 14), .ref (u3 15), .int 0])), (u3 17, .inr (3, [.ref (u3 18), .ref (u3 19), .ref (u3 20), .ref (u3 21), .ref (u3 22), .ref (u3 23), .int 0, .int (-1), .int 1, .int 0])), (u3 27, .inr (6, [.ref (u3 28), .ref (u3 29), .int 0, .int (-1), .int 0])), (u3 62, .inr (2, [.ref (u3 24), .ref (u3 50), .int 0, .int 0, .ref (u3 63), .ref (u3 64), .ref (u3 69), .ref (u3 70), .ref (u3 71), .ref (u3 72), .ref (u3 73), .ref (u3 74), .ref (u3 75), .ref (u3 76)])), (u3 77, .inr (0, [.ref (u3 0), .ref (u3 7), .ref (u3 78), .ref (u3 91), .ref (u3 92), .ref (u3 93), .ref (u3 94), .ref (u3 95), .int 0])), (u3 91, .inl (K 1, 12, .inl (fun _ => 0))), (q9, .inr (12, [.int 0, .int 4, .int 4, .ref (u11 0), .ref (u11 1), .ref (u11 2), .ref (u11 3), .int 0, .ref (u11 4), .ref (u11 5), .int 0, .ref (u11 6), .ref (u11 7), .ref (u11 8), .ref (u11 9), .ref (u11 10), .ref (u11 11), .ref (u11 12), .int 0, .ref (u11 13), .ref (u11 14), .ref (u11 15), .ref (u11 16), .ref (u11 17), .ref (u11 18), .int 0, .ref (u11 19), .int 0, .int 0, .int 0, .ref (u11 20), .int 0, .int 0, .ref (u11 21), .int 0, .ref (u11 60), .ref (u11 22), .ref (u11 23), .ref (u11 24), .ref (u11 61), .ref (u11 25), .ref (u11 26), .ref (u11 62), .ref (u11 63), .ref (u11 64), .ref (u11 27), .ref (u11 28), .ref (u11 29), .ref (u11 30), .ref (u11 31), .ref (u11 32), .ref (u11 33), .ref (u11 34), .ref (u11 35), .ref (u11 36), .ref (u11 37), .ref (u11 38), .ref (u11 65), .int 0, .int 0, .int 0, .int 0, .int 0, .long 0, .int 0, .int 0, .int 0, .int 0, .int 0, .int (-1), .int 0, .ref (u11 39), .ref (u11 40), .ref (u11 41), .ref (u11 42), .ref (u11 43), .int 0, .int 0, .ref (u11 44), .ref (u11 45), .ref (u11 46), .ref (u11 47), .ref (u11 48), .ref (u11 49), .ref (u11 50), .ref (u11 51), .int 0, .int 0, .int 0, .int 0, .ref (u11 52), .ref (u11 53), .int 0, .ref (u11 54), .ref (u11 55), .ref (u11 56), .ref (u11 57), .ref (u11 58), .ref (u11 59)])), (u11 0, .inl (K 0, 256, .inl (fun _ => 0))), (u11 1, .inl (K 0, 256, .inl (fun _ => 0)))]) [0, 1, 2, 3, 8, 18, 28, 63, 78, 92, 97, 98, 99] rfl rfl
      refine lv_pc (q := 176) rfl ?_
      refine lv_aload_n hx hb dL_law_176 rfl (lv_at hl 2 rfl) ?_
      refine lv_aload_n hx hb dL_law_177 rfl (lv_at hl 3 rfl) ?_
      refine lv_iload_n hx hb dL_law_178 rfl (lv_at hl 0 rfl) ?_
      refine lv_iconst (v := 1) hx hb dL_law_179 (by decide) ?_
      refine lv_iadd hx hb dL_law_180 ?_
      refine lv_fixi (y := 1) (by decide) ?_
      refine va_sld (i := 1) hx hb hX hbl hbA hS (by show ¬ (_ ∨ _); decide) dL_law_181 ?_
      refine lv_fixi (y := (xs 1)) rfl ?_
      refine lv_pc (q := 182) rfl ?_
      refine lv_aload_n hx hb dL_law_182 rfl (lv_at hl 3 rfl) ?_
      refine lv_iload_n hx hb dL_law_183 rfl (lv_at hl 0 rfl) ?_
      refine lv_iconst (v := 2) hx hb dL_law_184 (by decide) ?_
      refine lv_iadd hx hb dL_law_185 ?_
      refine lv_fixi (y := 2) (by decide) ?_
      refine va_sld (i := 2) hx hb hX hbl hbA hS (by show ¬ (_ ∨ _); decide) dL_law_186 ?_
      refine lv_fixi (y := (xs 2)) rfl ?_
      refine uVi (As := [.int (xs 1), .int (xs 2)]) (rest := []) (wr := [(q9, .inr (12, [.int 0, .int 4, .int 4, .ref (u11 0), .ref (u11 1), .ref (u11 2), .ref (u11 3), .int 0, .ref (u11 4), .ref (u11 5), .int 0, .ref (u11 6), .ref (u11 7), .ref (u11 8), .ref (u11 9), .ref (u11 10), .ref (u11 11), .ref (u11 12), .int 0, .ref (u11 13), .ref (u11 14), .ref (u11 15), .ref (u11 16), .ref (u11 17), .ref (u11 18), .int 0, .ref (u11 19), .int 0, .int 0, .int 0, .ref (u11 20), .int 0, .int 0, .ref (u11 21), .int 0, .ref (u11 60), .ref (u11 22), .ref (u11 23), .ref (u11 24), .ref (u11 61), .ref (u11 25), .ref (u11 26), .ref (u11 62), .ref (u11 63), .ref (u11 64), .ref (u11 27), .ref (u11 28), .ref (u11 29), .ref (u11 30), .ref (u11 31), .ref (u11 32), .ref (u11 33), .ref (u11 34), .ref (u11 35), .ref (u11 36), .ref (u11 37), .ref (u11 38), .ref (u11 65), .int 0, .int 0, .int 0, .int 0, .int 0, .long 0, .int 0, .int 0, .int 0, .int 0, .int 0, .int (-1), .int 0, .ref (u11 39), .ref (u11 40), .ref (u11 41), .ref (u11 42), .ref (u11 43), .int 0, .int 0, .ref (u11 44), .ref (u11 45), .ref (u11 46), .ref (u11 47), .ref (u11 48), .ref (u11 49), .ref (u11 50), .ref (u11 51), .int 0, .int 0, .int 0, .int 0, .ref (u11 52), .ref (u11 53), .int 0, .ref (u11 54), .ref (u11 55), .ref (u11 56), .ref (u11 57), .ref (u11 58), .ref (u11 59)])), (u11 0, .inl (K 0, 256, .inl (fun _ => 0))), (u11 1, .inl (K 0, 256, .inl (fun _ => 0)))]) [(q1, .inr (11, [.ref (u3 0), .ref (u3 7), .ref (u3 16), .ref (u3 17), .ref (u3 24), .ref (u3 27), .ref (u3 30), .ref (u3 33), .ref (u3 62), .ref (u3 77), .ref (u3 50)])), (u3 0, .inr (9, [.ref (u3 1), .ref (u3 2), .ref (u3 3), .ref (u3 4), .ref (u3 5), .ref (u3 6), .int 4, .int 4, .int 0])), (u3 1, .inl (K 0, 256, .inl (fun _ => 0))), (u3 2, .inl (K 0, 256, .inl (fun _ => 0))), (u3 7, .inr (4, [.ref (u3 0), .ref (u3 8), .ref (u3 9), .ref (u3 10), .ref (u3 11), .ref (u3 12), .ref (u3 13), .ref (u3 14), .ref (u3 15), .int 0])), (u3 17, .inr (3, [.ref (u3 18), .ref (u3 19), .ref (u3 20), .ref (u3 21), .ref (u3 22), .ref (u3 23), .int 0, .int (-1), .int 1, .int 0])), (u3 27, .inr (6, [.ref (u3 28), .ref (u3 29), .int 0, .int (-1), .int 0])), (u3 62, .inr (2, [.ref (u3 24), .ref (u3 50), .int 0, .int 0, .ref (u3 63), .ref (u3 64), .ref (u3 69), .ref (u3 70), .ref (u3 71), .ref (u3 72), .ref (u3 73), .ref (u3 74), .ref (u3 75), .ref (u3 76)])), (u3 77, .inr (0, [.ref (u3 0), .ref (u3 7), .ref (u3 78), .ref (u3 91), .ref (u3 92), .ref (u3 93), .ref (u3 94), .ref (u3 95), .int 0])), (u3 91, .inl (K 1, 12, .inl (fun _ => 0)))] B hl.1 hP hD hS [0, 1, 2, 3, 4, 5, 6, 7, 8, 9] [10, 11, 12] rfl rfl rfl (kX11_land_30 l D K _ q1 (u3 0) (u3 1) (u3 2) (u3 7) (u3 17) (u3 27) (u3 62) (u3 77) (u3 91) (u3 16) (u3 24) (u3 30) (u3 33) (u3 50) (u3 3) (u3 4) (u3 5) (u3 6) (fun _ => 0) (fun _ => 0) (u3 8) (u3 9) (u3 10) (u3 11) (u3 12) (u3 13) (u3 14) (u3 15) (u3 18) (u3 19) (u3 20) (u3 21) (u3 22) (u3 23) (u3 28) (u3 29) (u3 63) (u3 64) (u3 69) (u3 70) (u3 71) (u3 72) (u3 73) (u3 74) (u3 75) (u3 76) (u3 78) (u3 92) (u3 93) (u3 94) (u3 95) (fun _ => 0) (xs 1) (xs 2) (fun _ => Or.inl rfl)) wd_X11_land mml_L_13 rfl rfl rfl rfl ⟨Nat.le_of_ble_eq_true rfl, Nat.le_of_ble_eq_true rfl⟩ (Nat.le_of_ble_eq_true rfl) ⟨Nat.le_of_ble_eq_true rfl, Nat.le_of_ble_eq_true rfl⟩ dL_law_187 (fun r25 u H locs hw hP hD hS => ?_)
      try dsimp only at hw
      rcases hw with ⟨rfl, w26⟩ | ⟨rfl, ⟨w27, w28, w29, w30⟩⟩
      · have hP : va_P D vwCl [(q9, .inr (12, [.int 0, .int 4, .int 4, .ref (u11 0), .ref (u11 1), .ref (u11 2), .ref (u11 3), .int 0, .ref (u11 4), .ref (u11 5), .int 0, .ref (u11 6), .ref (u11 7), .ref (u11 8), .ref (u11 9), .ref (u11 10), .ref (u11 11), .ref (u11 12), .int 0, .ref (u11 13), .ref (u11 14), .ref (u11 15), .ref (u11 16), .ref (u11 17), .ref (u11 18), .int 0, .ref (u11 19), .int 0, .int 0, .int 0, .ref (u11 20), .int 0, .int 0, .ref (u11 21), .int 0, .ref (u11 60), .ref (u11 22), .ref (u11 23), .ref (u11 24), .ref (u11 61), .ref (u11 25), .ref (u11 26), .ref (u11 62), .ref (u11 63), .ref (u11 64), .ref (u11 27), .ref (u11 28), .ref (u11 29), .ref (u11 30), .ref (u11 31), .ref (u11 32), .ref (u11 33), .ref (u11 34), .ref (u11 35), .ref (u11 36), .ref (u11 37), .ref (u11 38), .ref (u11 65), .int 0, .int 0, .int 0, .int 0, .int 0, .long 0, .int 0, .int 0, .int 0, .int 0, .int 0, .int (-1), .int 0, .ref (u11 39), .ref (u11 40), .ref (u11 41), .ref (u11 42), .ref (u11 43), .int 0, .int 0, .ref (u11 44), .ref (u11 45), .ref (u11 46), .ref (u11 47), .ref (u11 48), .ref (u11 49), .ref (u11 50), .ref (u11 51), .int 0, .int 0, .int 0, .int 0, .ref (u11 52), .ref (u11 53), .int 0, .ref (u11 54), .ref (u11 55), .ref (u11 56), .ref (u11 57), .ref (u11 58), .ref (u11 59)])), (u11 0, .inl (K 0, 256, .inl (fun _ => 0))), (u11 1, .inl (K 0, 256, .inl (fun _ => 0)))] H := hP
        have hD : va_D A [(q9, .inr (12, [.int 0, .int 4, .int 4, .ref (u11 0), .ref (u11 1), .ref (u11 2), .ref (u11 3), .int 0, .ref (u11 4), .ref (u11 5), .int 0, .ref (u11 6), .ref (u11 7), .ref (u11 8), .ref (u11 9), .ref (u11 10), .ref (u11 11), .ref (u11 12), .int 0, .ref (u11 13), .ref (u11 14), .ref (u11 15), .ref (u11 16), .ref (u11 17), .ref (u11 18), .int 0, .ref (u11 19), .int 0, .int 0, .int 0, .ref (u11 20), .int 0, .int 0, .ref (u11 21), .int 0, .ref (u11 60), .ref (u11 22), .ref (u11 23), .ref (u11 24), .ref (u11 61), .ref (u11 25), .ref (u11 26), .ref (u11 62), .ref (u11 63), .ref (u11 64), .ref (u11 27), .ref (u11 28), .ref (u11 29), .ref (u11 30), .ref (u11 31), .ref (u11 32), .ref (u11 33), .ref (u11 34), .ref (u11 35), .ref (u11 36), .ref (u11 37), .ref (u11 38), .ref (u11 65), .int 0, .int 0, .int 0, .int 0, .int 0, .long 0, .int 0, .int 0, .int 0, .int 0, .int 0, .int (-1), .int 0, .ref (u11 39), .ref (u11 40), .ref (u11 41), .ref (u11 42), .ref (u11 43), .int 0, .int 0, .ref (u11 44), .ref (u11 45), .ref (u11 46), .ref (u11 47), .ref (u11 48), .ref (u11 49), .ref (u11 50), .ref (u11 51), .int 0, .int 0, .int 0, .int 0, .ref (u11 52), .ref (u11 53), .int 0, .ref (u11 54), .ref (u11 55), .ref (u11 56), .ref (u11 57), .ref (u11 58), .ref (u11 59)])), (u11 0, .inl (K 0, 256, .inl (fun _ => 0))), (u11 1, .inl (K 0, 256, .inl (fun _ => 0)))] := hD
        refine lv_pc (q := 190) rfl ?_
        refine lv_aload_n hx hb dL_law_190 rfl (lv_at hl 1 rfl) ?_
        refine lv_aload_n hx hb dL_law_191 rfl (lv_at hl 3 rfl) ?_
        refine lv_iload_n hx hb dL_law_192 rfl (lv_at hl 0 rfl) ?_
        refine lv_iconst (v := 1) hx hb dL_law_193 (by decide) ?_
        refine lv_iadd hx hb dL_law_194 ?_
        refine lv_fixi (y := 1) (by decide) ?_
        refine va_sld (i := 1) hx hb hX hbl hbA hS (by show ¬ (_ ∨ _); decide) dL_law_195 ?_
        refine lv_fixi (y := (xs 1)) rfl ?_
        refine lv_pc (q := 196) rfl ?_
        refine lv_aload_n hx hb dL_law_196 rfl (lv_at hl 3 rfl) ?_
        refine lv_iload_n hx hb dL_law_197 rfl (lv_at hl 0 rfl) ?_
        refine lv_iconst (v := 2) hx hb dL_law_198 (by decide) ?_
        refine lv_iadd hx hb dL_law_199 ?_
        refine lv_fixi (y := 2) (by decide) ?_
        refine va_sld (i := 2) hx hb hX hbl hbA hS (by show ¬ (_ ∨ _); decide) dL_law_200 ?_
        refine lv_fixi (y := (xs 2)) rfl ?_
        refine uVi (As := [.int (xs 1), .int (xs 2)]) (rest := [.int 0]) (wr := []) [(q9, .inr (12, [.int 0, .int 4, .int 4, .ref (u11 0), .ref (u11 1), .ref (u11 2), .ref (u11 3), .int 0, .ref (u11 4), .ref (u11 5), .int 0, .ref (u11 6), .ref (u11 7), .ref (u11 8), .ref (u11 9), .ref (u11 10), .ref (u11 11), .ref (u11 12), .int 0, .ref (u11 13), .ref (u11 14), .ref (u11 15), .ref (u11 16), .ref (u11 17), .ref (u11 18), .int 0, .ref (u11 19), .int 0, .int 0, .int 0, .ref (u11 20), .int 0, .int 0, .ref (u11 21), .int 0, .ref (u11 60), .ref (u11 22), .ref (u11 23), .ref (u11 24), .ref (u11 61), .ref (u11 25), .ref (u11 26), .ref (u11 62), .ref (u11 63), .ref (u11 64), .ref (u11 27), .ref (u11 28), .ref (u11 29), .ref (u11 30), .ref (u11 31), .ref (u11 32), .ref (u11 33), .ref (u11 34), .ref (u11 35), .ref (u11 36), .ref (u11 37), .ref (u11 38), .ref (u11 65), .int 0, .int 0, .int 0, .int 0, .int 0, .long 0, .int 0, .int 0, .int 0, .int 0, .int 0, .int (-1), .int 0, .ref (u11 39), .ref (u11 40), .ref (u11 41), .ref (u11 42), .ref (u11 43), .int 0, .int 0, .ref (u11 44), .ref (u11 45), .ref (u11 46), .ref (u11 47), .ref (u11 48), .ref (u11 49), .ref (u11 50), .ref (u11 51), .int 0, .int 0, .int 0, .int 0, .ref (u11 52), .ref (u11 53), .int 0, .ref (u11 54), .ref (u11 55), .ref (u11 56), .ref (u11 57), .ref (u11 58), .ref (u11 59)])), (u11 0, .inl (K 0, 256, .inl (fun _ => 0))), (u11 1, .inl (K 0, 256, .inl (fun _ => 0)))] B hl.1 hP hD hS [0, 1, 2] [] rfl rfl rfl (kX12_land_31 l D K _ q9 (u11 0) (u11 1) (u11 2) (u11 3) (u11 4) (u11 5) (u11 6) (u11 7) (u11 8) (u11 9) (u11 10) (u11 11) (u11 12) (u11 13) (u11 14) (u11 15) (u11 16) (u11 17) (u11 18) (u11 19) (u11 20) (u11 21) (u11 60) (u11 22) (u11 23) (u11 24) (u11 61) (u11 25) (u11 26) (u11 62) (u11 63) (u11 64) (u11 27) (u11 28) (u11 29) (u11 30) (u11 31) (u11 32) (u11 33) (u11 34) (u11 35) (u11 36) (u11 37) (u11 38) (u11 65) (u11 39) (u11 40) (u11 41) (u11 42) (u11 43) (u11 44) (u11 45) (u11 46) (u11 47) (u11 48) (u11 49) (u11 50) (u11 51) (u11 52) (u11 53) (u11 54) (u11 55) (u11 56) (u11 57) (u11 58) (u11 59) (fun _ => 0) (fun _ => 0) (xs 1) (xs 2)) wd_X12_land mml_L_17 rfl rfl rfl rfl ⟨Nat.le_of_ble_eq_true rfl, Nat.le_of_ble_eq_true rfl⟩ (Nat.le_of_ble_eq_true rfl) ⟨Nat.le_of_ble_eq_true rfl, Nat.le_of_ble_eq_true rfl⟩ dL_law_201 (fun r31 u H locs hw hP hD hS => ?_)
        try dsimp only at hw
        rcases hw with ⟨rfl, w32⟩ | ⟨rfl, ⟨w33, w34, w35, w36⟩⟩
        · have hP : va_P D vwCl [] H := hP
          have hD : va_D A [] := hD
          refine lv_pc (q := 204) rfl ?_
          refine lv_icmp_eq (tgt := 1474) hx hb dL_law_204 (by decide) (fun _ => ?_) (fun h9 => absurd (by decide) h9)
          refine lv_iinc (v := 7) (lv' := [(3, .int 7), (2, .ref q9), (1, .ref q1), (0, .ref b)]) hx hb dL_law_1474 hl (k := 0) rfl (by decide) (by decide) rfl (fun ls hl => ?_)
          refine lv_goto (tgt := 18) hx hb dL_law_1477 (by decide) ?_
          refine lv_iload_n hx hb dL_law_18 rfl (lv_at hl 0 rfl) ?_
          refine lv_aload_n hx hb dL_law_19 rfl (lv_at hl 3 rfl) ?_
          refine va_slen hx hb hX hbl hbA hS dL_law_20 ?_
          refine lv_fixi (y := 7) (by decide) ?_
          refine lv_pc (q := 21) rfl ?_
          refine lv_bipush (v := 7) hx hb dL_law_21 (by decide) ?_
          refine lv_isub hx hb dL_law_23 ?_
          refine lv_fixi (y := 0) (by decide) ?_
          refine lv_icmp_gt (tgt := 1480) hx hb dL_law_24 (by decide) (fun _ => ?_) (fun h9 => absurd (by decide) h9)
          refine lv_iconst (v := 1) hx hb dL_law_1480 (by decide) ?_
          refine va_forget (fun q hq => by have h9 := hS.2.2 q hq; rw [hAe] at h9; exact h9) ?_
          refine W.widen (k := 600000) (n := 7302250) (by decide) (by decide) ?_
          exact lw_ret hx hb hr hlocks dL_law_1481
        have hP : va_P D vwCl [] H := hP
        have hD : va_D A [] := hD
        refine lv_pc (q := 204) rfl ?_
        exfalso
        try simp only [fa_lt, fa_le, fa_eq, Int32.reduceToInt] at w26 w33 w34 w35 w36
        omega
      have hP : va_P D vwCl [(q9, .inr (12, [.int 0, .int 4, .int 4, .ref (u11 0), .ref (u11 1), .ref (u11 2), .ref (u11 3), .int 0, .ref (u11 4), .ref (u11 5), .int 0, .ref (u11 6), .ref (u11 7), .ref (u11 8), .ref (u11 9), .ref (u11 10), .ref (u11 11), .ref (u11 12), .int 0, .ref (u11 13), .ref (u11 14), .ref (u11 15), .ref (u11 16), .ref (u11 17), .ref (u11 18), .int 0, .ref (u11 19), .int 0, .int 0, .int 0, .ref (u11 20), .int 0, .int 0, .ref (u11 21), .int 0, .ref (u11 60), .ref (u11 22), .ref (u11 23), .ref (u11 24), .ref (u11 61), .ref (u11 25), .ref (u11 26), .ref (u11 62), .ref (u11 63), .ref (u11 64), .ref (u11 27), .ref (u11 28), .ref (u11 29), .ref (u11 30), .ref (u11 31), .ref (u11 32), .ref (u11 33), .ref (u11 34), .ref (u11 35), .ref (u11 36), .ref (u11 37), .ref (u11 38), .ref (u11 65), .int 0, .int 0, .int 0, .int 0, .int 0, .long 0, .int 0, .int 0, .int 0, .int 0, .int 0, .int (-1), .int 0, .ref (u11 39), .ref (u11 40), .ref (u11 41), .ref (u11 42), .ref (u11 43), .int 0, .int 0, .ref (u11 44), .ref (u11 45), .ref (u11 46), .ref (u11 47), .ref (u11 48), .ref (u11 49), .ref (u11 50), .ref (u11 51), .int 0, .int 0, .int 0, .int 0, .ref (u11 52), .ref (u11 53), .int 0, .ref (u11 54), .ref (u11 55), .ref (u11 56), .ref (u11 57), .ref (u11 58), .ref (u11 59)])), (u11 0, .inl (K 0, 256, .inl (fun _ => 0))), (u11 1, .inl (K 0, 256, .inl (fun _ => 0)))] H := hP
      have hD : va_D A [(q9, .inr (12, [.int 0, .int 4, .int 4, .ref (u11 0), .ref (u11 1), .ref (u11 2), .ref (u11 3), .int 0, .ref (u11 4), .ref (u11 5), .int 0, .ref (u11 6), .ref (u11 7), .ref (u11 8), .ref (u11 9), .ref (u11 10), .ref (u11 11), .ref (u11 12), .int 0, .ref (u11 13), .ref (u11 14), .ref (u11 15), .ref (u11 16), .ref (u11 17), .ref (u11 18), .int 0, .ref (u11 19), .int 0, .int 0, .int 0, .ref (u11 20), .int 0, .int 0, .ref (u11 21), .int 0, .ref (u11 60), .ref (u11 22), .ref (u11 23), .ref (u11 24), .ref (u11 61), .ref (u11 25), .ref (u11 26), .ref (u11 62), .ref (u11 63), .ref (u11 64), .ref (u11 27), .ref (u11 28), .ref (u11 29), .ref (u11 30), .ref (u11 31), .ref (u11 32), .ref (u11 33), .ref (u11 34), .ref (u11 35), .ref (u11 36), .ref (u11 37), .ref (u11 38), .ref (u11 65), .int 0, .int 0, .int 0, .int 0, .int 0, .long 0, .int 0, .int 0, .int 0, .int 0, .int 0, .int (-1), .int 0, .ref (u11 39), .ref (u11 40), .ref (u11 41), .ref (u11 42), .ref (u11 43), .int 0, .int 0, .ref (u11 44), .ref (u11 45), .ref (u11 46), .ref (u11 47), .ref (u11 48), .ref (u11 49), .ref (u11 50), .ref (u11 51), .int 0, .int 0, .int 0, .int 0, .ref (u11 52), .ref (u11 53), .int 0, .ref (u11 54), .ref (u11 55), .ref (u11 56), .ref (u11 57), .ref (u11 58), .ref (u11 59)])), (u11 0, .inl (K 0, 256, .inl (fun _ => 0))), (u11 1, .inl (K 0, 256, .inl (fun _ => 0)))] := hD
      refine lv_pc (q := 190) rfl ?_
      refine lv_aload_n hx hb dL_law_190 rfl (lv_at hl 1 rfl) ?_
      refine lv_aload_n hx hb dL_law_191 rfl (lv_at hl 3 rfl) ?_
      refine lv_iload_n hx hb dL_law_192 rfl (lv_at hl 0 rfl) ?_
      refine lv_iconst (v := 1) hx hb dL_law_193 (by decide) ?_
      refine lv_iadd hx hb dL_law_194 ?_
      refine lv_fixi (y := 1) (by decide) ?_
      refine va_sld (i := 1) hx hb hX hbl hbA hS (by show ¬ (_ ∨ _); decide) dL_law_195 ?_
      refine lv_fixi (y := (xs 1)) rfl ?_
      refine lv_pc (q := 196) rfl ?_
      refine lv_aload_n hx hb dL_law_196 rfl (lv_at hl 3 rfl) ?_
      refine lv_iload_n hx hb dL_law_197 rfl (lv_at hl 0 rfl) ?_
      refine lv_iconst (v := 2) hx hb dL_law_198 (by decide) ?_
      refine lv_iadd hx hb dL_law_199 ?_
      refine lv_fixi (y := 2) (by decide) ?_
      refine va_sld (i := 2) hx hb hX hbl hbA hS (by show ¬ (_ ∨ _); decide) dL_law_200 ?_
      refine lv_fixi (y := (xs 2)) rfl ?_
      refine uVi (As := [.int (xs 1), .int (xs 2)]) (rest := [.int 1]) (wr := []) [(q9, .inr (12, [.int 0, .int 4, .int 4, .ref (u11 0), .ref (u11 1), .ref (u11 2), .ref (u11 3), .int 0, .ref (u11 4), .ref (u11 5), .int 0, .ref (u11 6), .ref (u11 7), .ref (u11 8), .ref (u11 9), .ref (u11 10), .ref (u11 11), .ref (u11 12), .int 0, .ref (u11 13), .ref (u11 14), .ref (u11 15), .ref (u11 16), .ref (u11 17), .ref (u11 18), .int 0, .ref (u11 19), .int 0, .int 0, .int 0, .ref (u11 20), .int 0, .int 0, .ref (u11 21), .int 0, .ref (u11 60), .ref (u11 22), .ref (u11 23), .ref (u11 24), .ref (u11 61), .ref (u11 25), .ref (u11 26), .ref (u11 62), .ref (u11 63), .ref (u11 64), .ref (u11 27), .ref (u11 28), .ref (u11 29), .ref (u11 30), .ref (u11 31), .ref (u11 32), .ref (u11 33), .ref (u11 34), .ref (u11 35), .ref (u11 36), .ref (u11 37), .ref (u11 38), .ref (u11 65), .int 0, .int 0, .int 0, .int 0, .int 0, .long 0, .int 0, .int 0, .int 0, .int 0, .int 0, .int (-1), .int 0, .ref (u11 39), .ref (u11 40), .ref (u11 41), .ref (u11 42), .ref (u11 43), .int 0, .int 0, .ref (u11 44), .ref (u11 45), .ref (u11 46), .ref (u11 47), .ref (u11 48), .ref (u11 49), .ref (u11 50), .ref (u11 51), .int 0, .int 0, .int 0, .int 0, .ref (u11 52), .ref (u11 53), .int 0, .ref (u11 54), .ref (u11 55), .ref (u11 56), .ref (u11 57), .ref (u11 58), .ref (u11 59)])), (u11 0, .inl (K 0, 256, .inl (fun _ => 0))), (u11 1, .inl (K 0, 256, .inl (fun _ => 0)))] B hl.1 hP hD hS [0, 1, 2] [] rfl rfl rfl (kX12_land_31 l D K _ q9 (u11 0) (u11 1) (u11 2) (u11 3) (u11 4) (u11 5) (u11 6) (u11 7) (u11 8) (u11 9) (u11 10) (u11 11) (u11 12) (u11 13) (u11 14) (u11 15) (u11 16) (u11 17) (u11 18) (u11 19) (u11 20) (u11 21) (u11 60) (u11 22) (u11 23) (u11 24) (u11 61) (u11 25) (u11 26) (u11 62) (u11 63) (u11 64) (u11 27) (u11 28) (u11 29) (u11 30) (u11 31) (u11 32) (u11 33) (u11 34) (u11 35) (u11 36) (u11 37) (u11 38) (u11 65) (u11 39) (u11 40) (u11 41) (u11 42) (u11 43) (u11 44) (u11 45) (u11 46) (u11 47) (u11 48) (u11 49) (u11 50) (u11 51) (u11 52) (u11 53) (u11 54) (u11 55) (u11 56) (u11 57) (u11 58) (u11 59) (fun _ => 0) (fun _ => 0) (xs 1) (xs 2)) wd_X12_land mml_L_17 rfl rfl rfl rfl ⟨Nat.le_of_ble_eq_true rfl, Nat.le_of_ble_eq_true rfl⟩ (Nat.le_of_ble_eq_true rfl) ⟨Nat.le_of_ble_eq_true rfl, Nat.le_of_ble_eq_true rfl⟩ dL_law_201 (fun r37 u H locs hw hP hD hS => ?_)
      try dsimp only at hw
      rcases hw with ⟨rfl, w38⟩ | ⟨rfl, ⟨w39, w40, w41, w42⟩⟩
      · have hP : va_P D vwCl [] H := hP
        have hD : va_D A [] := hD
        refine lv_pc (q := 204) rfl ?_
        exfalso
        try simp only [fa_lt, fa_le, fa_eq, Int32.reduceToInt] at w27 w28 w29 w30 w38
        omega
      have hP : va_P D vwCl [] H := hP
      have hD : va_D A [] := hD
      refine lv_pc (q := 204) rfl ?_
      refine lv_icmp_eq (tgt := 1474) hx hb dL_law_204 (by decide) (fun _ => ?_) (fun h9 => absurd (by decide) h9)
      refine lv_iinc (v := 7) (lv' := [(3, .int 7), (2, .ref q9), (1, .ref q1), (0, .ref b)]) hx hb dL_law_1474 hl (k := 0) rfl (by decide) (by decide) rfl (fun ls hl => ?_)
      refine lv_goto (tgt := 18) hx hb dL_law_1477 (by decide) ?_
      refine lv_iload_n hx hb dL_law_18 rfl (lv_at hl 0 rfl) ?_
      refine lv_aload_n hx hb dL_law_19 rfl (lv_at hl 3 rfl) ?_
      refine va_slen hx hb hX hbl hbA hS dL_law_20 ?_
      refine lv_fixi (y := 7) (by decide) ?_
      refine lv_pc (q := 21) rfl ?_
      refine lv_bipush (v := 7) hx hb dL_law_21 (by decide) ?_
      refine lv_isub hx hb dL_law_23 ?_
      refine lv_fixi (y := 0) (by decide) ?_
      refine lv_icmp_gt (tgt := 1480) hx hb dL_law_24 (by decide) (fun _ => ?_) (fun h9 => absurd (by decide) h9)
      refine lv_iconst (v := 1) hx hb dL_law_1480 (by decide) ?_
      refine va_forget (fun q hq => by have h9 := hS.2.2 q hq; rw [hAe] at h9; exact h9) ?_
      refine W.widen (k := 600000) (n := 7302250) (by decide) (by decide) ?_
      exact lw_ret hx hb hr hlocks dL_law_1481
    · refine lv_fixi (y := 1) ejj ?_
      refine lv_tableIn (off := 176) (tgt := 209) hx hb dL_law_33 (by decide) (by decide) rfl (by decide) ?_
      replace hP := uSub (wc := [(q1, .inr (11, [.ref (u3 0), .ref (u3 7), .ref (u3 16), .ref (u3 17), .ref (u3 24), .ref (u3 27), .ref (u3 30), .ref (u3 33), .ref (u3 62), .ref (u3 77), .ref (u3 50)])), (u3 0, .inr (9, [.ref (u3 1), .ref (u3 2), .ref (u3 3), .ref (u3 4), .ref (u3 5), .ref (u3 6), .int 4, .int 4, .int 0])), (u3 1, .inl (K 0, 256, .inl (fun _ => 0))), (u3 2, .inl (K 0, 256, .inl (fun _ => 0))), (u3 77, .inr (0, [.ref (u3 0), .ref (u3 7), .ref (u3 78), .ref (u3 91), .ref (u3 92), .ref (u3 93), .ref (u3 94), .ref (u3 95), .int 0])), (u3 91, .inl (K 1, 12, .inl (fun _ => 0))), (q9, .inr (12, [.int 0, .int 4, .int 4, .ref (u11 0), .ref (u11 1), .ref (u11 2), .ref (u11 3), .int 0, .ref (u11 4), .ref (u11 5), .int 0, .ref (u11 6), .ref (u11 7), .ref (u11 8), .ref (u11 9), .ref (u11 10), .ref (u11 11), .ref (u11 12), .int 0, .ref (u11 13), .ref (u11 14), .ref (u11 15), .ref (u11 16), .ref (u11 17), .ref (u11 18), .int 0, .ref (u11 19), .int 0, .int 0, .int 0, .ref (u11 20), .int 0, .int 0, .ref (u11 21), .int 0, .ref (u11 60), .ref (u11 22), .ref (u11 23), .ref (u11 24), .ref (u11 61), .ref (u11 25), .ref (u11 26), .ref (u11 62), .ref (u11 63), .ref (u11 64), .ref (u11 27), .ref (u11 28), .ref (u11 29), .ref (u11 30), .ref (u11 31), .ref (u11 32), .ref (u11 33), .ref (u11 34), .ref (u11 35), .ref (u11 36), .ref (u11 37), .ref (u11 38), .ref (u11 65), .int 0, .int 0, .int 0, .int 0, .int 0, .long 0, .int 0, .int 0, .int 0, .int 0, .int 0, .int (-1), .int 0, .ref (u11 39), .ref (u11 40), .ref (u11 41), .ref (u11 42), .ref (u11 43), .int 0, .int 0, .ref (u11 44), .ref (u11 45), .ref (u11 46), .ref (u11 47), .ref (u11 48), .ref (u11 49), .ref (u11 50), .ref (u11 51), .int 0, .int 0, .int 0, .int 0, .ref (u11 52), .ref (u11 53), .int 0, .ref (u11 54), .ref (u11 55), .ref (u11 56), .ref (u11 57), .ref (u11 58), .ref (u11 59)])), (u11 0, .inl (K 0, 256, .inl (fun _ => 0))), (u11 1, .inl (K 0, 256, .inl (fun _ => 0)))]) hP [0, 1, 2, 3, 78, 92, 97, 98, 99] rfl
      replace hD := hD.sub (ws' := [(q1, .inr (11, [.ref (u3 0), .ref (u3 7), .ref (u3 16), .ref (u3 17), .ref (u3 24), .ref (u3 27), .ref (u3 30), .ref (u3 33), .ref (u3 62), .ref (u3 77), .ref (u3 50)])), (u3 0, .inr (9, [.ref (u3 1), .ref (u3 2), .ref (u3 3), .ref (u3 4), .ref (u3 5), .ref (u3 6), .int 4, .int 4, .int 0])), (u3 1, .inl (K 0, 256, .inl (fun _ => 0))), (u3 2, .inl (K 0, 256, .inl (fun _ => 0))), (u3 77, .inr (0, [.ref (u3 0), .ref (u3 7), .ref (u3 78), .ref (u3 91), .ref (u3 92), .ref (u3 93), .ref (u3 94), .ref (u3 95), .int 0])), (u3 91, .inl (K 1, 12, .inl (fun _ => 0))), (q9, .inr (12, [.int 0, .int 4, .int 4, .ref (u11 0), .ref (u11 1), .ref (u11 2), .ref (u11 3), .int 0, .ref (u11 4), .ref (u11 5), .int 0, .ref (u11 6), .ref (u11 7), .ref (u11 8), .ref (u11 9), .ref (u11 10), .ref (u11 11), .ref (u11 12), .int 0, .ref (u11 13), .ref (u11 14), .ref (u11 15), .ref (u11 16), .ref (u11 17), .ref (u11 18), .int 0, .ref (u11 19), .int 0, .int 0, .int 0, .ref (u11 20), .int 0, .int 0, .ref (u11 21), .int 0, .ref (u11 60), .ref (u11 22), .ref (u11 23), .ref (u11 24), .ref (u11 61), .ref (u11 25), .ref (u11 26), .ref (u11 62), .ref (u11 63), .ref (u11 64), .ref (u11 27), .ref (u11 28), .ref (u11 29), .ref (u11 30), .ref (u11 31), .ref (u11 32), .ref (u11 33), .ref (u11 34), .ref (u11 35), .ref (u11 36), .ref (u11 37), .ref (u11 38), .ref (u11 65), .int 0, .int 0, .int 0, .int 0, .int 0, .long 0, .int 0, .int 0, .int 0, .int 0, .int 0, .int (-1), .int 0, .ref (u11 39), .ref (u11 40), .ref (u11 41), .ref (u11 42), .ref (u11 43), .int 0, .int 0, .ref (u11 44), .ref (u11 45), .ref (u11 46), .ref (u11 47), .ref (u11 48), .ref (u11 49), .ref (u11 50), .ref (u11 51), .int 0, .int 0, .int 0, .int 0, .ref (u11 52), .ref (u11 53), .int 0, .ref (u11 54), .ref (u11 55), .ref (u11 56), .ref (u11 57), .ref (u11 58), .ref (u11 59)])), (u11 0, .inl (K 0, 256, .inl (fun _ => 0))), (u11 1, .inl (K 0, 256, .inl (fun _ => 0)))]) [0, 1, 2, 3, 78, 92, 97, 98, 99] rfl rfl
      refine lv_pc (q := 209) rfl ?_
      refine lv_aload_n hx hb dL_law_209 rfl (lv_at hl 2 rfl) ?_
      refine lv_aload_n hx hb dL_law_210 rfl (lv_at hl 3 rfl) ?_
      refine lv_iload_n hx hb dL_law_211 rfl (lv_at hl 0 rfl) ?_
      refine lv_iconst (v := 1) hx hb dL_law_212 (by decide) ?_
      refine lv_iadd hx hb dL_law_213 ?_
      refine lv_fixi (y := 1) (by decide) ?_
      refine va_sld (i := 1) hx hb hX hbl hbA hS (by show ¬ (_ ∨ _); decide) dL_law_214 ?_
      refine lv_fixi (y := (xs 1)) rfl ?_
      refine lv_pc (q := 215) rfl ?_
      refine lv_aload_n hx hb dL_law_215 rfl (lv_at hl 3 rfl) ?_
      refine lv_iload_n hx hb dL_law_216 rfl (lv_at hl 0 rfl) ?_
      refine lv_iconst (v := 2) hx hb dL_law_217 (by decide) ?_
      refine lv_iadd hx hb dL_law_218 ?_
      refine lv_fixi (y := 2) (by decide) ?_
      refine va_sld (i := 2) hx hb hX hbl hbA hS (by show ¬ (_ ∨ _); decide) dL_law_219 ?_
      refine lv_fixi (y := (xs 2)) rfl ?_
      refine lv_aload_n hx hb dL_law_220 rfl (lv_at hl 3 rfl) ?_
      refine lv_pc (q := 221) rfl ?_
      refine lv_iload_n hx hb dL_law_221 rfl (lv_at hl 0 rfl) ?_
      refine lv_iconst (v := 3) hx hb dL_law_222 (by decide) ?_
      refine lv_iadd hx hb dL_law_223 ?_
      refine lv_fixi (y := 3) (by decide) ?_
      refine va_sld (i := 3) hx hb hX hbl hbA hS (by show ¬ (_ ∨ _); decide) dL_law_224 ?_
      refine lv_fixi (y := (xs 3)) rfl ?_
      refine lv_aload_n hx hb dL_law_225 rfl (lv_at hl 3 rfl) ?_
      refine lv_iload_n hx hb dL_law_226 rfl (lv_at hl 0 rfl) ?_
      refine lv_pc (q := 227) rfl ?_
      refine lv_iconst (v := 4) hx hb dL_law_227 (by decide) ?_
      refine lv_iadd hx hb dL_law_228 ?_
      refine lv_fixi (y := 4) (by decide) ?_
      refine va_sld (i := 4) hx hb hX hbl hbA hS (by show ¬ (_ ∨ _); decide) dL_law_229 ?_
      refine lv_fixi (y := (xs 4)) rfl ?_
      refine lv_aload_n hx hb dL_law_230 rfl (lv_at hl 3 rfl) ?_
      refine lv_iload_n hx hb dL_law_231 rfl (lv_at hl 0 rfl) ?_
      refine lv_iconst (v := 5) hx hb dL_law_232 (by decide) ?_
      refine lv_pc (q := 233) rfl ?_
      refine lv_iadd hx hb dL_law_233 ?_
      refine lv_fixi (y := 5) (by decide) ?_
      refine va_sld (i := 5) hx hb hX hbl hbA hS (by show ¬ (_ ∨ _); decide) dL_law_234 ?_
      refine lv_fixi (y := (xs 5)) rfl ?_
      refine lv_aload_n hx hb dL_law_235 rfl (lv_at hl 3 rfl) ?_
      refine lv_iload_n hx hb dL_law_236 rfl (lv_at hl 0 rfl) ?_
      refine lv_bipush (v := 6) hx hb dL_law_237 (by decide) ?_
      refine lv_iadd hx hb dL_law_239 ?_
      refine lv_fixi (y := 6) (by decide) ?_
      refine lv_pc (q := 240) rfl ?_
      refine va_sld (i := 6) hx hb hX hbl hbA hS (by show ¬ (_ ∨ _); decide) dL_law_240 ?_
      refine lv_fixi (y := (xs 6)) rfl ?_
      refine uVi (As := [.int (xs 1), .int (xs 2), .int (xs 3), .int (xs 4), .int (xs 5), .int (xs 6)]) (rest := []) (wr := [(q9, .inr (12, [.int 0, .int 4, .int 4, .ref (u11 0), .ref (u11 1), .ref (u11 2), .ref (u11 3), .int 0, .ref (u11 4), .ref (u11 5), .int 0, .ref (u11 6), .ref (u11 7), .ref (u11 8), .ref (u11 9), .ref (u11 10), .ref (u11 11), .ref (u11 12), .int 0, .ref (u11 13), .ref (u11 14), .ref (u11 15), .ref (u11 16), .ref (u11 17), .ref (u11 18), .int 0, .ref (u11 19), .int 0, .int 0, .int 0, .ref (u11 20), .int 0, .int 0, .ref (u11 21), .int 0, .ref (u11 60), .ref (u11 22), .ref (u11 23), .ref (u11 24), .ref (u11 61), .ref (u11 25), .ref (u11 26), .ref (u11 62), .ref (u11 63), .ref (u11 64), .ref (u11 27), .ref (u11 28), .ref (u11 29), .ref (u11 30), .ref (u11 31), .ref (u11 32), .ref (u11 33), .ref (u11 34), .ref (u11 35), .ref (u11 36), .ref (u11 37), .ref (u11 38), .ref (u11 65), .int 0, .int 0, .int 0, .int 0, .int 0, .long 0, .int 0, .int 0, .int 0, .int 0, .int 0, .int (-1), .int 0, .ref (u11 39), .ref (u11 40), .ref (u11 41), .ref (u11 42), .ref (u11 43), .int 0, .int 0, .ref (u11 44), .ref (u11 45), .ref (u11 46), .ref (u11 47), .ref (u11 48), .ref (u11 49), .ref (u11 50), .ref (u11 51), .int 0, .int 0, .int 0, .int 0, .ref (u11 52), .ref (u11 53), .int 0, .ref (u11 54), .ref (u11 55), .ref (u11 56), .ref (u11 57), .ref (u11 58), .ref (u11 59)])), (u11 0, .inl (K 0, 256, .inl (fun _ => 0))), (u11 1, .inl (K 0, 256, .inl (fun _ => 0)))]) [(q1, .inr (11, [.ref (u3 0), .ref (u3 7), .ref (u3 16), .ref (u3 17), .ref (u3 24), .ref (u3 27), .ref (u3 30), .ref (u3 33), .ref (u3 62), .ref (u3 77), .ref (u3 50)])), (u3 0, .inr (9, [.ref (u3 1), .ref (u3 2), .ref (u3 3), .ref (u3 4), .ref (u3 5), .ref (u3 6), .int 4, .int 4, .int 0])), (u3 1, .inl (K 0, 256, .inl (fun _ => 0))), (u3 2, .inl (K 0, 256, .inl (fun _ => 0))), (u3 77, .inr (0, [.ref (u3 0), .ref (u3 7), .ref (u3 78), .ref (u3 91), .ref (u3 92), .ref (u3 93), .ref (u3 94), .ref (u3 95), .int 0])), (u3 91, .inl (K 1, 12, .inl (fun _ => 0)))] B hl.1 hP hD hS [0, 1, 2, 3, 4, 5] [6, 7, 8] rfl rfl rfl (kX11_ground_35 l D K _ q1 (u3 0) (u3 1) (u3 2) (u3 77) (u3 91) (u3 7) (u3 16) (u3 17) (u3 24) (u3 27) (u3 30) (u3 33) (u3 62) (u3 50) (u3 3) (u3 4) (u3 5) (u3 6) (fun _ => 0) (fun _ => 0) (u3 78) (u3 92) (u3 93) (u3 94) (u3 95) (fun _ => 0) (xs 1) (xs 2) (xs 3) (xs 4) (xs 5) (xs 6) (fun _ => Or.inl rfl)) wd_X11_ground mml_L_18 rfl rfl rfl rfl ⟨Nat.le_of_ble_eq_true rfl, Nat.le_of_ble_eq_true rfl⟩ (Nat.le_of_ble_eq_true rfl) ⟨Nat.le_of_ble_eq_true rfl, Nat.le_of_ble_eq_true rfl⟩ dL_law_241 (fun r43 u H locs hw hP hD hS => ?_)
      try dsimp only at hw
      rcases hw with ⟨rfl, w44⟩ | ⟨rfl, ⟨w45, w46, w47, w48, w49, w50, w51, w52, w53, w54, w55, w56, w57, w58⟩⟩
      · have hP : va_P D vwCl [(q9, .inr (12, [.int 0, .int 4, .int 4, .ref (u11 0), .ref (u11 1), .ref (u11 2), .ref (u11 3), .int 0, .ref (u11 4), .ref (u11 5), .int 0, .ref (u11 6), .ref (u11 7), .ref (u11 8), .ref (u11 9), .ref (u11 10), .ref (u11 11), .ref (u11 12), .int 0, .ref (u11 13), .ref (u11 14), .ref (u11 15), .ref (u11 16), .ref (u11 17), .ref (u11 18), .int 0, .ref (u11 19), .int 0, .int 0, .int 0, .ref (u11 20), .int 0, .int 0, .ref (u11 21), .int 0, .ref (u11 60), .ref (u11 22), .ref (u11 23), .ref (u11 24), .ref (u11 61), .ref (u11 25), .ref (u11 26), .ref (u11 62), .ref (u11 63), .ref (u11 64), .ref (u11 27), .ref (u11 28), .ref (u11 29), .ref (u11 30), .ref (u11 31), .ref (u11 32), .ref (u11 33), .ref (u11 34), .ref (u11 35), .ref (u11 36), .ref (u11 37), .ref (u11 38), .ref (u11 65), .int 0, .int 0, .int 0, .int 0, .int 0, .long 0, .int 0, .int 0, .int 0, .int 0, .int 0, .int (-1), .int 0, .ref (u11 39), .ref (u11 40), .ref (u11 41), .ref (u11 42), .ref (u11 43), .int 0, .int 0, .ref (u11 44), .ref (u11 45), .ref (u11 46), .ref (u11 47), .ref (u11 48), .ref (u11 49), .ref (u11 50), .ref (u11 51), .int 0, .int 0, .int 0, .int 0, .ref (u11 52), .ref (u11 53), .int 0, .ref (u11 54), .ref (u11 55), .ref (u11 56), .ref (u11 57), .ref (u11 58), .ref (u11 59)])), (u11 0, .inl (K 0, 256, .inl (fun _ => 0))), (u11 1, .inl (K 0, 256, .inl (fun _ => 0)))] H := hP
        have hD : va_D A [(q9, .inr (12, [.int 0, .int 4, .int 4, .ref (u11 0), .ref (u11 1), .ref (u11 2), .ref (u11 3), .int 0, .ref (u11 4), .ref (u11 5), .int 0, .ref (u11 6), .ref (u11 7), .ref (u11 8), .ref (u11 9), .ref (u11 10), .ref (u11 11), .ref (u11 12), .int 0, .ref (u11 13), .ref (u11 14), .ref (u11 15), .ref (u11 16), .ref (u11 17), .ref (u11 18), .int 0, .ref (u11 19), .int 0, .int 0, .int 0, .ref (u11 20), .int 0, .int 0, .ref (u11 21), .int 0, .ref (u11 60), .ref (u11 22), .ref (u11 23), .ref (u11 24), .ref (u11 61), .ref (u11 25), .ref (u11 26), .ref (u11 62), .ref (u11 63), .ref (u11 64), .ref (u11 27), .ref (u11 28), .ref (u11 29), .ref (u11 30), .ref (u11 31), .ref (u11 32), .ref (u11 33), .ref (u11 34), .ref (u11 35), .ref (u11 36), .ref (u11 37), .ref (u11 38), .ref (u11 65), .int 0, .int 0, .int 0, .int 0, .int 0, .long 0, .int 0, .int 0, .int 0, .int 0, .int 0, .int (-1), .int 0, .ref (u11 39), .ref (u11 40), .ref (u11 41), .ref (u11 42), .ref (u11 43), .int 0, .int 0, .ref (u11 44), .ref (u11 45), .ref (u11 46), .ref (u11 47), .ref (u11 48), .ref (u11 49), .ref (u11 50), .ref (u11 51), .int 0, .int 0, .int 0, .int 0, .ref (u11 52), .ref (u11 53), .int 0, .ref (u11 54), .ref (u11 55), .ref (u11 56), .ref (u11 57), .ref (u11 58), .ref (u11 59)])), (u11 0, .inl (K 0, 256, .inl (fun _ => 0))), (u11 1, .inl (K 0, 256, .inl (fun _ => 0)))] := hD
        refine lv_aload_n hx hb dL_law_244 rfl (lv_at hl 1 rfl) ?_
        refine lv_aload_n hx hb dL_law_245 rfl (lv_at hl 3 rfl) ?_
        refine lv_iload_n hx hb dL_law_246 rfl (lv_at hl 0 rfl) ?_
        refine lv_iconst (v := 1) hx hb dL_law_247 (by decide) ?_
        refine lv_pc (q := 248) rfl ?_
        refine lv_iadd hx hb dL_law_248 ?_
        refine lv_fixi (y := 1) (by decide) ?_
        refine va_sld (i := 1) hx hb hX hbl hbA hS (by show ¬ (_ ∨ _); decide) dL_law_249 ?_
        refine lv_fixi (y := (xs 1)) rfl ?_
        refine lv_aload_n hx hb dL_law_250 rfl (lv_at hl 3 rfl) ?_
        refine lv_iload_n hx hb dL_law_251 rfl (lv_at hl 0 rfl) ?_
        refine lv_iconst (v := 2) hx hb dL_law_252 (by decide) ?_
        refine lv_iadd hx hb dL_law_253 ?_
        refine lv_fixi (y := 2) (by decide) ?_
        refine lv_pc (q := 254) rfl ?_
        refine va_sld (i := 2) hx hb hX hbl hbA hS (by show ¬ (_ ∨ _); decide) dL_law_254 ?_
        refine lv_fixi (y := (xs 2)) rfl ?_
        refine lv_aload_n hx hb dL_law_255 rfl (lv_at hl 3 rfl) ?_
        refine lv_iload_n hx hb dL_law_256 rfl (lv_at hl 0 rfl) ?_
        refine lv_iconst (v := 3) hx hb dL_law_257 (by decide) ?_
        refine lv_iadd hx hb dL_law_258 ?_
        refine lv_fixi (y := 3) (by decide) ?_
        refine va_sld (i := 3) hx hb hX hbl hbA hS (by show ¬ (_ ∨ _); decide) dL_law_259 ?_
        refine lv_fixi (y := (xs 3)) rfl ?_
        refine lv_pc (q := 260) rfl ?_
        refine lv_aload_n hx hb dL_law_260 rfl (lv_at hl 3 rfl) ?_
        refine lv_iload_n hx hb dL_law_261 rfl (lv_at hl 0 rfl) ?_
        refine lv_iconst (v := 4) hx hb dL_law_262 (by decide) ?_
        refine lv_iadd hx hb dL_law_263 ?_
        refine lv_fixi (y := 4) (by decide) ?_
        refine va_sld (i := 4) hx hb hX hbl hbA hS (by show ¬ (_ ∨ _); decide) dL_law_264 ?_
        refine lv_fixi (y := (xs 4)) rfl ?_
        refine lv_aload_n hx hb dL_law_265 rfl (lv_at hl 3 rfl) ?_
        refine lv_pc (q := 266) rfl ?_
        refine lv_iload_n hx hb dL_law_266 rfl (lv_at hl 0 rfl) ?_
        refine lv_iconst (v := 5) hx hb dL_law_267 (by decide) ?_
        refine lv_iadd hx hb dL_law_268 ?_
        refine lv_fixi (y := 5) (by decide) ?_
        refine va_sld (i := 5) hx hb hX hbl hbA hS (by show ¬ (_ ∨ _); decide) dL_law_269 ?_
        refine lv_fixi (y := (xs 5)) rfl ?_
        refine lv_aload_n hx hb dL_law_270 rfl (lv_at hl 3 rfl) ?_
        refine lv_iload_n hx hb dL_law_271 rfl (lv_at hl 0 rfl) ?_
        refine lv_pc (q := 272) rfl ?_
        refine lv_bipush (v := 6) hx hb dL_law_272 (by decide) ?_
        refine lv_iadd hx hb dL_law_274 ?_
        refine lv_fixi (y := 6) (by decide) ?_
        refine va_sld (i := 6) hx hb hX hbl hbA hS (by show ¬ (_ ∨ _); decide) dL_law_275 ?_
        refine lv_fixi (y := (xs 6)) rfl ?_
        refine uVi (As := [.int (xs 1), .int (xs 2), .int (xs 3), .int (xs 4), .int (xs 5), .int (xs 6)]) (rest := [.int 0]) (wr := []) [(q9, .inr (12, [.int 0, .int 4, .int 4, .ref (u11 0), .ref (u11 1), .ref (u11 2), .ref (u11 3), .int 0, .ref (u11 4), .ref (u11 5), .int 0, .ref (u11 6), .ref (u11 7), .ref (u11 8), .ref (u11 9), .ref (u11 10), .ref (u11 11), .ref (u11 12), .int 0, .ref (u11 13), .ref (u11 14), .ref (u11 15), .ref (u11 16), .ref (u11 17), .ref (u11 18), .int 0, .ref (u11 19), .int 0, .int 0, .int 0, .ref (u11 20), .int 0, .int 0, .ref (u11 21), .int 0, .ref (u11 60), .ref (u11 22), .ref (u11 23), .ref (u11 24), .ref (u11 61), .ref (u11 25), .ref (u11 26), .ref (u11 62), .ref (u11 63), .ref (u11 64), .ref (u11 27), .ref (u11 28), .ref (u11 29), .ref (u11 30), .ref (u11 31), .ref (u11 32), .ref (u11 33), .ref (u11 34), .ref (u11 35), .ref (u11 36), .ref (u11 37), .ref (u11 38), .ref (u11 65), .int 0, .int 0, .int 0, .int 0, .int 0, .long 0, .int 0, .int 0, .int 0, .int 0, .int 0, .int (-1), .int 0, .ref (u11 39), .ref (u11 40), .ref (u11 41), .ref (u11 42), .ref (u11 43), .int 0, .int 0, .ref (u11 44), .ref (u11 45), .ref (u11 46), .ref (u11 47), .ref (u11 48), .ref (u11 49), .ref (u11 50), .ref (u11 51), .int 0, .int 0, .int 0, .int 0, .ref (u11 52), .ref (u11 53), .int 0, .ref (u11 54), .ref (u11 55), .ref (u11 56), .ref (u11 57), .ref (u11 58), .ref (u11 59)])), (u11 0, .inl (K 0, 256, .inl (fun _ => 0))), (u11 1, .inl (K 0, 256, .inl (fun _ => 0)))] B hl.1 hP hD hS [0, 1, 2] [] rfl rfl rfl (kX12_ground_36 l D K _ q9 (u11 0) (u11 1) (u11 2) (u11 3) (u11 4) (u11 5) (u11 6) (u11 7) (u11 8) (u11 9) (u11 10) (u11 11) (u11 12) (u11 13) (u11 14) (u11 15) (u11 16) (u11 17) (u11 18) (u11 19) (u11 20) (u11 21) (u11 60) (u11 22) (u11 23) (u11 24) (u11 61) (u11 25) (u11 26) (u11 62) (u11 63) (u11 64) (u11 27) (u11 28) (u11 29) (u11 30) (u11 31) (u11 32) (u11 33) (u11 34) (u11 35) (u11 36) (u11 37) (u11 38) (u11 65) (u11 39) (u11 40) (u11 41) (u11 42) (u11 43) (u11 44) (u11 45) (u11 46) (u11 47) (u11 48) (u11 49) (u11 50) (u11 51) (u11 52) (u11 53) (u11 54) (u11 55) (u11 56) (u11 57) (u11 58) (u11 59) (fun _ => 0) (fun _ => 0) (xs 1) (xs 2) (xs 3) (xs 4) (xs 5) (xs 6)) wd_X12_ground mml_L_22 rfl rfl rfl rfl ⟨Nat.le_of_ble_eq_true rfl, Nat.le_of_ble_eq_true rfl⟩ (Nat.le_of_ble_eq_true rfl) ⟨Nat.le_of_ble_eq_true rfl, Nat.le_of_ble_eq_true rfl⟩ dL_law_276 (fun r59 u H locs hw hP hD hS => ?_)
        try dsimp only at hw
        rcases hw with ⟨rfl, w60⟩ | ⟨rfl, ⟨w61, w62, w63, w64, w65, w66, w67, w68, w69, w70⟩⟩
        · have hP : va_P D vwCl [] H := hP
          have hD : va_D A [] := hD
          refine lv_icmp_eq (tgt := 1474) hx hb dL_law_279 (by decide) (fun _ => ?_) (fun h9 => absurd (by decide) h9)
          refine lv_iinc (v := 7) (lv' := [(3, .int 7), (2, .ref q9), (1, .ref q1), (0, .ref b)]) hx hb dL_law_1474 hl (k := 0) rfl (by decide) (by decide) rfl (fun ls hl => ?_)
          refine lv_pc (q := 1477) rfl ?_
          refine lv_goto (tgt := 18) hx hb dL_law_1477 (by decide) ?_
          refine lv_iload_n hx hb dL_law_18 rfl (lv_at hl 0 rfl) ?_
          refine lv_aload_n hx hb dL_law_19 rfl (lv_at hl 3 rfl) ?_
          refine va_slen hx hb hX hbl hbA hS dL_law_20 ?_
          refine lv_fixi (y := 7) (by decide) ?_
          refine lv_bipush (v := 7) hx hb dL_law_21 (by decide) ?_
          refine lv_isub hx hb dL_law_23 ?_
          refine lv_fixi (y := 0) (by decide) ?_
          refine lv_pc (q := 24) rfl ?_
          refine lv_icmp_gt (tgt := 1480) hx hb dL_law_24 (by decide) (fun _ => ?_) (fun h9 => absurd (by decide) h9)
          refine lv_iconst (v := 1) hx hb dL_law_1480 (by decide) ?_
          refine va_forget (fun q hq => by have h9 := hS.2.2 q hq; rw [hAe] at h9; exact h9) ?_
          refine W.widen (k := 600000) (n := 7302250) (by decide) (by decide) ?_
          exact lw_ret hx hb hr hlocks dL_law_1481
        have hP : va_P D vwCl [] H := hP
        have hD : va_D A [] := hD
        exfalso
        try simp only [fa_lt, fa_le, fa_eq, Int32.reduceToInt] at w44 w61 w62 w63 w64 w65 w66 w67 w68 w69 w70
        omega
      have hP : va_P D vwCl [(q9, .inr (12, [.int 0, .int 4, .int 4, .ref (u11 0), .ref (u11 1), .ref (u11 2), .ref (u11 3), .int 0, .ref (u11 4), .ref (u11 5), .int 0, .ref (u11 6), .ref (u11 7), .ref (u11 8), .ref (u11 9), .ref (u11 10), .ref (u11 11), .ref (u11 12), .int 0, .ref (u11 13), .ref (u11 14), .ref (u11 15), .ref (u11 16), .ref (u11 17), .ref (u11 18), .int 0, .ref (u11 19), .int 0, .int 0, .int 0, .ref (u11 20), .int 0, .int 0, .ref (u11 21), .int 0, .ref (u11 60), .ref (u11 22), .ref (u11 23), .ref (u11 24), .ref (u11 61), .ref (u11 25), .ref (u11 26), .ref (u11 62), .ref (u11 63), .ref (u11 64), .ref (u11 27), .ref (u11 28), .ref (u11 29), .ref (u11 30), .ref (u11 31), .ref (u11 32), .ref (u11 33), .ref (u11 34), .ref (u11 35), .ref (u11 36), .ref (u11 37), .ref (u11 38), .ref (u11 65), .int 0, .int 0, .int 0, .int 0, .int 0, .long 0, .int 0, .int 0, .int 0, .int 0, .int 0, .int (-1), .int 0, .ref (u11 39), .ref (u11 40), .ref (u11 41), .ref (u11 42), .ref (u11 43), .int 0, .int 0, .ref (u11 44), .ref (u11 45), .ref (u11 46), .ref (u11 47), .ref (u11 48), .ref (u11 49), .ref (u11 50), .ref (u11 51), .int 0, .int 0, .int 0, .int 0, .ref (u11 52), .ref (u11 53), .int 0, .ref (u11 54), .ref (u11 55), .ref (u11 56), .ref (u11 57), .ref (u11 58), .ref (u11 59)])), (u11 0, .inl (K 0, 256, .inl (fun _ => 0))), (u11 1, .inl (K 0, 256, .inl (fun _ => 0)))] H := hP
      have hD : va_D A [(q9, .inr (12, [.int 0, .int 4, .int 4, .ref (u11 0), .ref (u11 1), .ref (u11 2), .ref (u11 3), .int 0, .ref (u11 4), .ref (u11 5), .int 0, .ref (u11 6), .ref (u11 7), .ref (u11 8), .ref (u11 9), .ref (u11 10), .ref (u11 11), .ref (u11 12), .int 0, .ref (u11 13), .ref (u11 14), .ref (u11 15), .ref (u11 16), .ref (u11 17), .ref (u11 18), .int 0, .ref (u11 19), .int 0, .int 0, .int 0, .ref (u11 20), .int 0, .int 0, .ref (u11 21), .int 0, .ref (u11 60), .ref (u11 22), .ref (u11 23), .ref (u11 24), .ref (u11 61), .ref (u11 25), .ref (u11 26), .ref (u11 62), .ref (u11 63), .ref (u11 64), .ref (u11 27), .ref (u11 28), .ref (u11 29), .ref (u11 30), .ref (u11 31), .ref (u11 32), .ref (u11 33), .ref (u11 34), .ref (u11 35), .ref (u11 36), .ref (u11 37), .ref (u11 38), .ref (u11 65), .int 0, .int 0, .int 0, .int 0, .int 0, .long 0, .int 0, .int 0, .int 0, .int 0, .int 0, .int (-1), .int 0, .ref (u11 39), .ref (u11 40), .ref (u11 41), .ref (u11 42), .ref (u11 43), .int 0, .int 0, .ref (u11 44), .ref (u11 45), .ref (u11 46), .ref (u11 47), .ref (u11 48), .ref (u11 49), .ref (u11 50), .ref (u11 51), .int 0, .int 0, .int 0, .int 0, .ref (u11 52), .ref (u11 53), .int 0, .ref (u11 54), .ref (u11 55), .ref (u11 56), .ref (u11 57), .ref (u11 58), .ref (u11 59)])), (u11 0, .inl (K 0, 256, .inl (fun _ => 0))), (u11 1, .inl (K 0, 256, .inl (fun _ => 0)))] := hD
      refine lv_aload_n hx hb dL_law_244 rfl (lv_at hl 1 rfl) ?_
      refine lv_aload_n hx hb dL_law_245 rfl (lv_at hl 3 rfl) ?_
      refine lv_iload_n hx hb dL_law_246 rfl (lv_at hl 0 rfl) ?_
      refine lv_iconst (v := 1) hx hb dL_law_247 (by decide) ?_
      refine lv_pc (q := 248) rfl ?_
      refine lv_iadd hx hb dL_law_248 ?_
      refine lv_fixi (y := 1) (by decide) ?_
      refine va_sld (i := 1) hx hb hX hbl hbA hS (by show ¬ (_ ∨ _); decide) dL_law_249 ?_
      refine lv_fixi (y := (xs 1)) rfl ?_
      refine lv_aload_n hx hb dL_law_250 rfl (lv_at hl 3 rfl) ?_
      refine lv_iload_n hx hb dL_law_251 rfl (lv_at hl 0 rfl) ?_
      refine lv_iconst (v := 2) hx hb dL_law_252 (by decide) ?_
      refine lv_iadd hx hb dL_law_253 ?_
      refine lv_fixi (y := 2) (by decide) ?_
      refine lv_pc (q := 254) rfl ?_
      refine va_sld (i := 2) hx hb hX hbl hbA hS (by show ¬ (_ ∨ _); decide) dL_law_254 ?_
      refine lv_fixi (y := (xs 2)) rfl ?_
      refine lv_aload_n hx hb dL_law_255 rfl (lv_at hl 3 rfl) ?_
      refine lv_iload_n hx hb dL_law_256 rfl (lv_at hl 0 rfl) ?_
      refine lv_iconst (v := 3) hx hb dL_law_257 (by decide) ?_
      refine lv_iadd hx hb dL_law_258 ?_
      refine lv_fixi (y := 3) (by decide) ?_
      refine va_sld (i := 3) hx hb hX hbl hbA hS (by show ¬ (_ ∨ _); decide) dL_law_259 ?_
      refine lv_fixi (y := (xs 3)) rfl ?_
      refine lv_pc (q := 260) rfl ?_
      refine lv_aload_n hx hb dL_law_260 rfl (lv_at hl 3 rfl) ?_
      refine lv_iload_n hx hb dL_law_261 rfl (lv_at hl 0 rfl) ?_
      refine lv_iconst (v := 4) hx hb dL_law_262 (by decide) ?_
      refine lv_iadd hx hb dL_law_263 ?_
      refine lv_fixi (y := 4) (by decide) ?_
      refine va_sld (i := 4) hx hb hX hbl hbA hS (by show ¬ (_ ∨ _); decide) dL_law_264 ?_
      refine lv_fixi (y := (xs 4)) rfl ?_
      refine lv_aload_n hx hb dL_law_265 rfl (lv_at hl 3 rfl) ?_
      refine lv_pc (q := 266) rfl ?_
      refine lv_iload_n hx hb dL_law_266 rfl (lv_at hl 0 rfl) ?_
      refine lv_iconst (v := 5) hx hb dL_law_267 (by decide) ?_
      refine lv_iadd hx hb dL_law_268 ?_
      refine lv_fixi (y := 5) (by decide) ?_
      refine va_sld (i := 5) hx hb hX hbl hbA hS (by show ¬ (_ ∨ _); decide) dL_law_269 ?_
      refine lv_fixi (y := (xs 5)) rfl ?_
      refine lv_aload_n hx hb dL_law_270 rfl (lv_at hl 3 rfl) ?_
      refine lv_iload_n hx hb dL_law_271 rfl (lv_at hl 0 rfl) ?_
      refine lv_pc (q := 272) rfl ?_
      refine lv_bipush (v := 6) hx hb dL_law_272 (by decide) ?_
      refine lv_iadd hx hb dL_law_274 ?_
      refine lv_fixi (y := 6) (by decide) ?_
      refine va_sld (i := 6) hx hb hX hbl hbA hS (by show ¬ (_ ∨ _); decide) dL_law_275 ?_
      refine lv_fixi (y := (xs 6)) rfl ?_
      refine uVi (As := [.int (xs 1), .int (xs 2), .int (xs 3), .int (xs 4), .int (xs 5), .int (xs 6)]) (rest := [.int 1]) (wr := []) [(q9, .inr (12, [.int 0, .int 4, .int 4, .ref (u11 0), .ref (u11 1), .ref (u11 2), .ref (u11 3), .int 0, .ref (u11 4), .ref (u11 5), .int 0, .ref (u11 6), .ref (u11 7), .ref (u11 8), .ref (u11 9), .ref (u11 10), .ref (u11 11), .ref (u11 12), .int 0, .ref (u11 13), .ref (u11 14), .ref (u11 15), .ref (u11 16), .ref (u11 17), .ref (u11 18), .int 0, .ref (u11 19), .int 0, .int 0, .int 0, .ref (u11 20), .int 0, .int 0, .ref (u11 21), .int 0, .ref (u11 60), .ref (u11 22), .ref (u11 23), .ref (u11 24), .ref (u11 61), .ref (u11 25), .ref (u11 26), .ref (u11 62), .ref (u11 63), .ref (u11 64), .ref (u11 27), .ref (u11 28), .ref (u11 29), .ref (u11 30), .ref (u11 31), .ref (u11 32), .ref (u11 33), .ref (u11 34), .ref (u11 35), .ref (u11 36), .ref (u11 37), .ref (u11 38), .ref (u11 65), .int 0, .int 0, .int 0, .int 0, .int 0, .long 0, .int 0, .int 0, .int 0, .int 0, .int 0, .int (-1), .int 0, .ref (u11 39), .ref (u11 40), .ref (u11 41), .ref (u11 42), .ref (u11 43), .int 0, .int 0, .ref (u11 44), .ref (u11 45), .ref (u11 46), .ref (u11 47), .ref (u11 48), .ref (u11 49), .ref (u11 50), .ref (u11 51), .int 0, .int 0, .int 0, .int 0, .ref (u11 52), .ref (u11 53), .int 0, .ref (u11 54), .ref (u11 55), .ref (u11 56), .ref (u11 57), .ref (u11 58), .ref (u11 59)])), (u11 0, .inl (K 0, 256, .inl (fun _ => 0))), (u11 1, .inl (K 0, 256, .inl (fun _ => 0)))] B hl.1 hP hD hS [0, 1, 2] [] rfl rfl rfl (kX12_ground_36 l D K _ q9 (u11 0) (u11 1) (u11 2) (u11 3) (u11 4) (u11 5) (u11 6) (u11 7) (u11 8) (u11 9) (u11 10) (u11 11) (u11 12) (u11 13) (u11 14) (u11 15) (u11 16) (u11 17) (u11 18) (u11 19) (u11 20) (u11 21) (u11 60) (u11 22) (u11 23) (u11 24) (u11 61) (u11 25) (u11 26) (u11 62) (u11 63) (u11 64) (u11 27) (u11 28) (u11 29) (u11 30) (u11 31) (u11 32) (u11 33) (u11 34) (u11 35) (u11 36) (u11 37) (u11 38) (u11 65) (u11 39) (u11 40) (u11 41) (u11 42) (u11 43) (u11 44) (u11 45) (u11 46) (u11 47) (u11 48) (u11 49) (u11 50) (u11 51) (u11 52) (u11 53) (u11 54) (u11 55) (u11 56) (u11 57) (u11 58) (u11 59) (fun _ => 0) (fun _ => 0) (xs 1) (xs 2) (xs 3) (xs 4) (xs 5) (xs 6)) wd_X12_ground mml_L_22 rfl rfl rfl rfl ⟨Nat.le_of_ble_eq_true rfl, Nat.le_of_ble_eq_true rfl⟩ (Nat.le_of_ble_eq_true rfl) ⟨Nat.le_of_ble_eq_true rfl, Nat.le_of_ble_eq_true rfl⟩ dL_law_276 (fun r71 u H locs hw hP hD hS => ?_)
      try dsimp only at hw
      rcases hw with ⟨rfl, w72⟩ | ⟨rfl, ⟨w73, w74, w75, w76, w77, w78, w79, w80, w81, w82⟩⟩
      · have hP : va_P D vwCl [] H := hP
        have hD : va_D A [] := hD
        exfalso
        try simp only [fa_lt, fa_le, fa_eq, Int32.reduceToInt] at w45 w46 w47 w48 w49 w50 w51 w52 w53 w54 w55 w56 w57 w58 w72
        omega
      have hP : va_P D vwCl [] H := hP
      have hD : va_D A [] := hD
      refine lv_icmp_eq (tgt := 1474) hx hb dL_law_279 (by decide) (fun _ => ?_) (fun h9 => absurd (by decide) h9)
      refine lv_iinc (v := 7) (lv' := [(3, .int 7), (2, .ref q9), (1, .ref q1), (0, .ref b)]) hx hb dL_law_1474 hl (k := 0) rfl (by decide) (by decide) rfl (fun ls hl => ?_)
      refine lv_pc (q := 1477) rfl ?_
      refine lv_goto (tgt := 18) hx hb dL_law_1477 (by decide) ?_
      refine lv_iload_n hx hb dL_law_18 rfl (lv_at hl 0 rfl) ?_
      refine lv_aload_n hx hb dL_law_19 rfl (lv_at hl 3 rfl) ?_
      refine va_slen hx hb hX hbl hbA hS dL_law_20 ?_
      refine lv_fixi (y := 7) (by decide) ?_
      refine lv_bipush (v := 7) hx hb dL_law_21 (by decide) ?_
      refine lv_isub hx hb dL_law_23 ?_
      refine lv_fixi (y := 0) (by decide) ?_
      refine lv_pc (q := 24) rfl ?_
      refine lv_icmp_gt (tgt := 1480) hx hb dL_law_24 (by decide) (fun _ => ?_) (fun h9 => absurd (by decide) h9)
      refine lv_iconst (v := 1) hx hb dL_law_1480 (by decide) ?_
      refine va_forget (fun q hq => by have h9 := hS.2.2 q hq; rw [hAe] at h9; exact h9) ?_
      refine W.widen (k := 600000) (n := 7302250) (by decide) (by decide) ?_
      exact lw_ret hx hb hr hlocks dL_law_1481
    · refine lv_fixi (y := 2) ejj ?_
      refine lv_tableIn (off := 251) (tgt := 284) hx hb dL_law_33 (by decide) (by decide) rfl (by decide) ?_
      replace hP := uSub (wc := [(q1, .inr (11, [.ref (u3 0), .ref (u3 7), .ref (u3 16), .ref (u3 17), .ref (u3 24), .ref (u3 27), .ref (u3 30), .ref (u3 33), .ref (u3 62), .ref (u3 77), .ref (u3 50)])), (u3 0, .inr (9, [.ref (u3 1), .ref (u3 2), .ref (u3 3), .ref (u3 4), .ref (u3 5), .ref (u3 6), .int 4, .int 4, .int 0])), (u3 3, .inl (K 0, 4, .inl (fun _ => 0))), (u3 4, .inl (K 0, 4, .inl (fun _ => 0))), (q9, .inr (12, [.int 0, .int 4, .int 4, .ref (u11 0), .ref (u11 1), .ref (u11 2), .ref (u11 3), .int 0, .ref (u11 4), .ref (u11 5), .int 0, .ref (u11 6), .ref (u11 7), .ref (u11 8), .ref (u11 9), .ref (u11 10), .ref (u11 11), .ref (u11 12), .int 0, .ref (u11 13), .ref (u11 14), .ref (u11 15), .ref (u11 16), .ref (u11 17), .ref (u11 18), .int 0, .ref (u11 19), .int 0, .int 0, .int 0, .ref (u11 20), .int 0, .int 0, .ref (u11 21), .int 0, .ref (u11 60), .ref (u11 22), .ref (u11 23), .ref (u11 24), .ref (u11 61), .ref (u11 25), .ref (u11 26), .ref (u11 62), .ref (u11 63), .ref (u11 64), .ref (u11 27), .ref (u11 28), .ref (u11 29), .ref (u11 30), .ref (u11 31), .ref (u11 32), .ref (u11 33), .ref (u11 34), .ref (u11 35), .ref (u11 36), .ref (u11 37), .ref (u11 38), .ref (u11 65), .int 0, .int 0, .int 0, .int 0, .int 0, .long 0, .int 0, .int 0, .int 0, .int 0, .int 0, .int (-1), .int 0, .ref (u11 39), .ref (u11 40), .ref (u11 41), .ref (u11 42), .ref (u11 43), .int 0, .int 0, .ref (u11 44), .ref (u11 45), .ref (u11 46), .ref (u11 47), .ref (u11 48), .ref (u11 49), .ref (u11 50), .ref (u11 51), .int 0, .int 0, .int 0, .int 0, .ref (u11 52), .ref (u11 53), .int 0, .ref (u11 54), .ref (u11 55), .ref (u11 56), .ref (u11 57), .ref (u11 58), .ref (u11 59)])), (u11 2, .inl (K 0, 4, .inl (fun _ => 0))), (u11 3, .inl (K 0, 4, .inl (fun _ => 0)))]) hP [0, 1, 4, 5, 97, 100, 101] rfl
      replace hD := hD.sub (ws' := [(q1, .inr (11, [.ref (u3 0), .ref (u3 7), .ref (u3 16), .ref (u3 17), .ref (u3 24), .ref (u3 27), .ref (u3 30), .ref (u3 33), .ref (u3 62), .ref (u3 77), .ref (u3 50)])), (u3 0, .inr (9, [.ref (u3 1), .ref (u3 2), .ref (u3 3), .ref (u3 4), .ref (u3 5), .ref (u3 6), .int 4, .int 4, .int 0])), (u3 3, .inl (K 0, 4, .inl (fun _ => 0))), (u3 4, .inl (K 0, 4, .inl (fun _ => 0))), (q9, .inr (12, [.int 0, .int 4, .int 4, .ref (u11 0), .ref (u11 1), .ref (u11 2), .ref (u11 3), .int 0, .ref (u11 4), .ref (u11 5), .int 0, .ref (u11 6), .ref (u11 7), .ref (u11 8), .ref (u11 9), .ref (u11 10), .ref (u11 11), .ref (u11 12), .int 0, .ref (u11 13), .ref (u11 14), .ref (u11 15), .ref (u11 16), .ref (u11 17), .ref (u11 18), .int 0, .ref (u11 19), .int 0, .int 0, .int 0, .ref (u11 20), .int 0, .int 0, .ref (u11 21), .int 0, .ref (u11 60), .ref (u11 22), .ref (u11 23), .ref (u11 24), .ref (u11 61), .ref (u11 25), .ref (u11 26), .ref (u11 62), .ref (u11 63), .ref (u11 64), .ref (u11 27), .ref (u11 28), .ref (u11 29), .ref (u11 30), .ref (u11 31), .ref (u11 32), .ref (u11 33), .ref (u11 34), .ref (u11 35), .ref (u11 36), .ref (u11 37), .ref (u11 38), .ref (u11 65), .int 0, .int 0, .int 0, .int 0, .int 0, .long 0, .int 0, .int 0, .int 0, .int 0, .int 0, .int (-1), .int 0, .ref (u11 39), .ref (u11 40), .ref (u11 41), .ref (u11 42), .ref (u11 43), .int 0, .int 0, .ref (u11 44), .ref (u11 45), .ref (u11 46), .ref (u11 47), .ref (u11 48), .ref (u11 49), .ref (u11 50), .ref (u11 51), .int 0, .int 0, .int 0, .int 0, .ref (u11 52), .ref (u11 53), .int 0, .ref (u11 54), .ref (u11 55), .ref (u11 56), .ref (u11 57), .ref (u11 58), .ref (u11 59)])), (u11 2, .inl (K 0, 4, .inl (fun _ => 0))), (u11 3, .inl (K 0, 4, .inl (fun _ => 0)))]) [0, 1, 4, 5, 97, 100, 101] rfl rfl
      refine lv_pc (q := 284) rfl ?_
      refine lv_aload_n hx hb dL_law_284 rfl (lv_at hl 2 rfl) ?_
      refine lv_aload_n hx hb dL_law_285 rfl (lv_at hl 3 rfl) ?_
      refine lv_iload_n hx hb dL_law_286 rfl (lv_at hl 0 rfl) ?_
      refine lv_iconst (v := 1) hx hb dL_law_287 (by decide) ?_
      refine lv_iadd hx hb dL_law_288 ?_
      refine lv_fixi (y := 1) (by decide) ?_
      refine va_sld (i := 1) hx hb hX hbl hbA hS (by show ¬ (_ ∨ _); decide) dL_law_289 ?_
      refine lv_fixi (y := (xs 1)) rfl ?_
      refine lv_pc (q := 290) rfl ?_
      refine lv_aload_n hx hb dL_law_290 rfl (lv_at hl 3 rfl) ?_
      refine lv_iload_n hx hb dL_law_291 rfl (lv_at hl 0 rfl) ?_
      refine lv_iconst (v := 2) hx hb dL_law_292 (by decide) ?_
      refine lv_iadd hx hb dL_law_293 ?_
      refine lv_fixi (y := 2) (by decide) ?_
      refine va_sld (i := 2) hx hb hX hbl hbA hS (by show ¬ (_ ∨ _); decide) dL_law_294 ?_
      refine lv_fixi (y := (xs 2)) rfl ?_
      refine lv_aload_n hx hb dL_law_295 rfl (lv_at hl 3 rfl) ?_
      refine lv_pc (q := 296) rfl ?_
      refine lv_iload_n hx hb dL_law_296 rfl (lv_at hl 0 rfl) ?_
      refine lv_iconst (v := 3) hx hb dL_law_297 (by decide) ?_
      refine lv_iadd hx hb dL_law_298 ?_
      refine lv_fixi (y := 3) (by decide) ?_
      refine va_sld (i := 3) hx hb hX hbl hbA hS (by show ¬ (_ ∨ _); decide) dL_law_299 ?_
      refine lv_fixi (y := (xs 3)) rfl ?_
      refine uVi (As := [.int (xs 1), .int (xs 2), .int (xs 3)]) (rest := []) (wr := [(q9, .inr (12, [.int 0, .int 4, .int 4, .ref (u11 0), .ref (u11 1), .ref (u11 2), .ref (u11 3), .int 0, .ref (u11 4), .ref (u11 5), .int 0, .ref (u11 6), .ref (u11 7), .ref (u11 8), .ref (u11 9), .ref (u11 10), .ref (u11 11), .ref (u11 12), .int 0, .ref (u11 13), .ref (u11 14), .ref (u11 15), .ref (u11 16), .ref (u11 17), .ref (u11 18), .int 0, .ref (u11 19), .int 0, .int 0, .int 0, .ref (u11 20), .int 0, .int 0, .ref (u11 21), .int 0, .ref (u11 60), .ref (u11 22), .ref (u11 23), .ref (u11 24), .ref (u11 61), .ref (u11 25), .ref (u11 26), .ref (u11 62), .ref (u11 63), .ref (u11 64), .ref (u11 27), .ref (u11 28), .ref (u11 29), .ref (u11 30), .ref (u11 31), .ref (u11 32), .ref (u11 33), .ref (u11 34), .ref (u11 35), .ref (u11 36), .ref (u11 37), .ref (u11 38), .ref (u11 65), .int 0, .int 0, .int 0, .int 0, .int 0, .long 0, .int 0, .int 0, .int 0, .int 0, .int 0, .int (-1), .int 0, .ref (u11 39), .ref (u11 40), .ref (u11 41), .ref (u11 42), .ref (u11 43), .int 0, .int 0, .ref (u11 44), .ref (u11 45), .ref (u11 46), .ref (u11 47), .ref (u11 48), .ref (u11 49), .ref (u11 50), .ref (u11 51), .int 0, .int 0, .int 0, .int 0, .ref (u11 52), .ref (u11 53), .int 0, .ref (u11 54), .ref (u11 55), .ref (u11 56), .ref (u11 57), .ref (u11 58), .ref (u11 59)])), (u11 2, .inl (K 0, 4, .inl (fun _ => 0))), (u11 3, .inl (K 0, 4, .inl (fun _ => 0)))]) [(q1, .inr (11, [.ref (u3 0), .ref (u3 7), .ref (u3 16), .ref (u3 17), .ref (u3 24), .ref (u3 27), .ref (u3 30), .ref (u3 33), .ref (u3 62), .ref (u3 77), .ref (u3 50)])), (u3 0, .inr (9, [.ref (u3 1), .ref (u3 2), .ref (u3 3), .ref (u3 4), .ref (u3 5), .ref (u3 6), .int 4, .int 4, .int 0])), (u3 3, .inl (K 0, 4, .inl (fun _ => 0))), (u3 4, .inl (K 0, 4, .inl (fun _ => 0)))] B hl.1 hP hD hS [0, 1, 2, 3] [4, 5, 6] rfl rfl rfl (kX11_trees_38 l D K _ q1 (u3 0) (u3 3) (u3 4) (u3 7) (u3 16) (u3 17) (u3 24) (u3 27) (u3 30) (u3 33) (u3 62) (u3 77) (u3 50) (u3 1) (u3 2) (u3 5) (u3 6) (fun _ => 0) (fun _ => 0) (xs 1) (xs 2) (xs 3)) wd_X11_trees mml_L_23 rfl rfl rfl rfl ⟨Nat.le_of_ble_eq_true rfl, Nat.le_of_ble_eq_true rfl⟩ (Nat.le_of_ble_eq_true rfl) ⟨Nat.le_of_ble_eq_true rfl, Nat.le_of_ble_eq_true rfl⟩ dL_law_300 (fun r83 u H locs hw hP hD hS => ?_)
      try dsimp only at hw
      rcases hw with ⟨rfl, w84⟩ | ⟨rfl, ⟨w85, w86, w87, w88, w89⟩⟩
      · have hP : va_P D vwCl [(q9, .inr (12, [.int 0, .int 4, .int 4, .ref (u11 0), .ref (u11 1), .ref (u11 2), .ref (u11 3), .int 0, .ref (u11 4), .ref (u11 5), .int 0, .ref (u11 6), .ref (u11 7), .ref (u11 8), .ref (u11 9), .ref (u11 10), .ref (u11 11), .ref (u11 12), .int 0, .ref (u11 13), .ref (u11 14), .ref (u11 15), .ref (u11 16), .ref (u11 17), .ref (u11 18), .int 0, .ref (u11 19), .int 0, .int 0, .int 0, .ref (u11 20), .int 0, .int 0, .ref (u11 21), .int 0, .ref (u11 60), .ref (u11 22), .ref (u11 23), .ref (u11 24), .ref (u11 61), .ref (u11 25), .ref (u11 26), .ref (u11 62), .ref (u11 63), .ref (u11 64), .ref (u11 27), .ref (u11 28), .ref (u11 29), .ref (u11 30), .ref (u11 31), .ref (u11 32), .ref (u11 33), .ref (u11 34), .ref (u11 35), .ref (u11 36), .ref (u11 37), .ref (u11 38), .ref (u11 65), .int 0, .int 0, .int 0, .int 0, .int 0, .long 0, .int 0, .int 0, .int 0, .int 0, .int 0, .int (-1), .int 0, .ref (u11 39), .ref (u11 40), .ref (u11 41), .ref (u11 42), .ref (u11 43), .int 0, .int 0, .ref (u11 44), .ref (u11 45), .ref (u11 46), .ref (u11 47), .ref (u11 48), .ref (u11 49), .ref (u11 50), .ref (u11 51), .int 0, .int 0, .int 0, .int 0, .ref (u11 52), .ref (u11 53), .int 0, .ref (u11 54), .ref (u11 55), .ref (u11 56), .ref (u11 57), .ref (u11 58), .ref (u11 59)])), (u11 2, .inl (K 0, 4, .inl (fun _ => 0))), (u11 3, .inl (K 0, 4, .inl (fun _ => 0)))] H := hP
        have hD : va_D A [(q9, .inr (12, [.int 0, .int 4, .int 4, .ref (u11 0), .ref (u11 1), .ref (u11 2), .ref (u11 3), .int 0, .ref (u11 4), .ref (u11 5), .int 0, .ref (u11 6), .ref (u11 7), .ref (u11 8), .ref (u11 9), .ref (u11 10), .ref (u11 11), .ref (u11 12), .int 0, .ref (u11 13), .ref (u11 14), .ref (u11 15), .ref (u11 16), .ref (u11 17), .ref (u11 18), .int 0, .ref (u11 19), .int 0, .int 0, .int 0, .ref (u11 20), .int 0, .int 0, .ref (u11 21), .int 0, .ref (u11 60), .ref (u11 22), .ref (u11 23), .ref (u11 24), .ref (u11 61), .ref (u11 25), .ref (u11 26), .ref (u11 62), .ref (u11 63), .ref (u11 64), .ref (u11 27), .ref (u11 28), .ref (u11 29), .ref (u11 30), .ref (u11 31), .ref (u11 32), .ref (u11 33), .ref (u11 34), .ref (u11 35), .ref (u11 36), .ref (u11 37), .ref (u11 38), .ref (u11 65), .int 0, .int 0, .int 0, .int 0, .int 0, .long 0, .int 0, .int 0, .int 0, .int 0, .int 0, .int (-1), .int 0, .ref (u11 39), .ref (u11 40), .ref (u11 41), .ref (u11 42), .ref (u11 43), .int 0, .int 0, .ref (u11 44), .ref (u11 45), .ref (u11 46), .ref (u11 47), .ref (u11 48), .ref (u11 49), .ref (u11 50), .ref (u11 51), .int 0, .int 0, .int 0, .int 0, .ref (u11 52), .ref (u11 53), .int 0, .ref (u11 54), .ref (u11 55), .ref (u11 56), .ref (u11 57), .ref (u11 58), .ref (u11 59)])), (u11 2, .inl (K 0, 4, .inl (fun _ => 0))), (u11 3, .inl (K 0, 4, .inl (fun _ => 0)))] := hD
        refine lv_aload_n hx hb dL_law_303 rfl (lv_at hl 1 rfl) ?_
        refine lv_pc (q := 304) rfl ?_
        refine lv_aload_n hx hb dL_law_304 rfl (lv_at hl 3 rfl) ?_
        refine lv_iload_n hx hb dL_law_305 rfl (lv_at hl 0 rfl) ?_
        refine lv_iconst (v := 1) hx hb dL_law_306 (by decide) ?_
        refine lv_iadd hx hb dL_law_307 ?_
        refine lv_fixi (y := 1) (by decide) ?_
        refine va_sld (i := 1) hx hb hX hbl hbA hS (by show ¬ (_ ∨ _); decide) dL_law_308 ?_
        refine lv_fixi (y := (xs 1)) rfl ?_
        refine lv_aload_n hx hb dL_law_309 rfl (lv_at hl 3 rfl) ?_
        refine lv_pc (q := 310) rfl ?_
        refine lv_iload_n hx hb dL_law_310 rfl (lv_at hl 0 rfl) ?_
        refine lv_iconst (v := 2) hx hb dL_law_311 (by decide) ?_
        refine lv_iadd hx hb dL_law_312 ?_
        refine lv_fixi (y := 2) (by decide) ?_
        refine va_sld (i := 2) hx hb hX hbl hbA hS (by show ¬ (_ ∨ _); decide) dL_law_313 ?_
        refine lv_fixi (y := (xs 2)) rfl ?_
        refine lv_aload_n hx hb dL_law_314 rfl (lv_at hl 3 rfl) ?_
        refine lv_iload_n hx hb dL_law_315 rfl (lv_at hl 0 rfl) ?_
        refine lv_pc (q := 316) rfl ?_
        refine lv_iconst (v := 3) hx hb dL_law_316 (by decide) ?_
        refine lv_iadd hx hb dL_law_317 ?_
        refine lv_fixi (y := 3) (by decide) ?_
        refine va_sld (i := 3) hx hb hX hbl hbA hS (by show ¬ (_ ∨ _); decide) dL_law_318 ?_
        refine lv_fixi (y := (xs 3)) rfl ?_
        refine uVi (As := [.int (xs 1), .int (xs 2), .int (xs 3)]) (rest := [.int 0]) (wr := []) [(q9, .inr (12, [.int 0, .int 4, .int 4, .ref (u11 0), .ref (u11 1), .ref (u11 2), .ref (u11 3), .int 0, .ref (u11 4), .ref (u11 5), .int 0, .ref (u11 6), .ref (u11 7), .ref (u11 8), .ref (u11 9), .ref (u11 10), .ref (u11 11), .ref (u11 12), .int 0, .ref (u11 13), .ref (u11 14), .ref (u11 15), .ref (u11 16), .ref (u11 17), .ref (u11 18), .int 0, .ref (u11 19), .int 0, .int 0, .int 0, .ref (u11 20), .int 0, .int 0, .ref (u11 21), .int 0, .ref (u11 60), .ref (u11 22), .ref (u11 23), .ref (u11 24), .ref (u11 61), .ref (u11 25), .ref (u11 26), .ref (u11 62), .ref (u11 63), .ref (u11 64), .ref (u11 27), .ref (u11 28), .ref (u11 29), .ref (u11 30), .ref (u11 31), .ref (u11 32), .ref (u11 33), .ref (u11 34), .ref (u11 35), .ref (u11 36), .ref (u11 37), .ref (u11 38), .ref (u11 65), .int 0, .int 0, .int 0, .int 0, .int 0, .long 0, .int 0, .int 0, .int 0, .int 0, .int 0, .int (-1), .int 0, .ref (u11 39), .ref (u11 40), .ref (u11 41), .ref (u11 42), .ref (u11 43), .int 0, .int 0, .ref (u11 44), .ref (u11 45), .ref (u11 46), .ref (u11 47), .ref (u11 48), .ref (u11 49), .ref (u11 50), .ref (u11 51), .int 0, .int 0, .int 0, .int 0, .ref (u11 52), .ref (u11 53), .int 0, .ref (u11 54), .ref (u11 55), .ref (u11 56), .ref (u11 57), .ref (u11 58), .ref (u11 59)])), (u11 2, .inl (K 0, 4, .inl (fun _ => 0))), (u11 3, .inl (K 0, 4, .inl (fun _ => 0)))] B hl.1 hP hD hS [0, 1, 2] [] rfl rfl rfl (kX12_trees_39 l D K _ q9 (u11 2) (u11 3) (u11 0) (u11 1) (u11 4) (u11 5) (u11 6) (u11 7) (u11 8) (u11 9) (u11 10) (u11 11) (u11 12) (u11 13) (u11 14) (u11 15) (u11 16) (u11 17) (u11 18) (u11 19) (u11 20) (u11 21) (u11 60) (u11 22) (u11 23) (u11 24) (u11 61) (u11 25) (u11 26) (u11 62) (u11 63) (u11 64) (u11 27) (u11 28) (u11 29) (u11 30) (u11 31) (u11 32) (u11 33) (u11 34) (u11 35) (u11 36) (u11 37) (u11 38) (u11 65) (u11 39) (u11 40) (u11 41) (u11 42) (u11 43) (u11 44) (u11 45) (u11 46) (u11 47) (u11 48) (u11 49) (u11 50) (u11 51) (u11 52) (u11 53) (u11 54) (u11 55) (u11 56) (u11 57) (u11 58) (u11 59) (fun _ => 0) (fun _ => 0) (xs 1) (xs 2) (xs 3)) wd_X12_trees mml_L_27 rfl rfl rfl rfl ⟨Nat.le_of_ble_eq_true rfl, Nat.le_of_ble_eq_true rfl⟩ (Nat.le_of_ble_eq_true rfl) ⟨Nat.le_of_ble_eq_true rfl, Nat.le_of_ble_eq_true rfl⟩ dL_law_319 (fun r90 u H locs hw hP hD hS => ?_)
        try dsimp only at hw
        rcases hw with ⟨rfl, w91⟩ | ⟨rfl, ⟨w92, w93, w94, w95, w96⟩⟩
        · have hP : va_P D vwCl [] H := hP
          have hD : va_D A [] := hD
          refine lv_icmp_eq (tgt := 1474) hx hb dL_law_322 (by decide) (fun _ => ?_) (fun h9 => absurd (by decide) h9)
          refine lv_iinc (v := 7) (lv' := [(3, .int 7), (2, .ref q9), (1, .ref q1), (0, .ref b)]) hx hb dL_law_1474 hl (k := 0) rfl (by decide) (by decide) rfl (fun ls hl => ?_)
          refine lv_pc (q := 1477) rfl ?_
          refine lv_goto (tgt := 18) hx hb dL_law_1477 (by decide) ?_
          refine lv_iload_n hx hb dL_law_18 rfl (lv_at hl 0 rfl) ?_
          refine lv_aload_n hx hb dL_law_19 rfl (lv_at hl 3 rfl) ?_
          refine va_slen hx hb hX hbl hbA hS dL_law_20 ?_
          refine lv_fixi (y := 7) (by decide) ?_
          refine lv_bipush (v := 7) hx hb dL_law_21 (by decide) ?_
          refine lv_isub hx hb dL_law_23 ?_
          refine lv_fixi (y := 0) (by decide) ?_
          refine lv_pc (q := 24) rfl ?_
          refine lv_icmp_gt (tgt := 1480) hx hb dL_law_24 (by decide) (fun _ => ?_) (fun h9 => absurd (by decide) h9)
          refine lv_iconst (v := 1) hx hb dL_law_1480 (by decide) ?_
          refine va_forget (fun q hq => by have h9 := hS.2.2 q hq; rw [hAe] at h9; exact h9) ?_
          refine W.widen (k := 600000) (n := 7302250) (by decide) (by decide) ?_
          exact lw_ret hx hb hr hlocks dL_law_1481
        have hP : va_P D vwCl [] H := hP
        have hD : va_D A [] := hD
        exfalso
        try simp only [fa_lt, fa_le, fa_eq, Int32.reduceToInt] at w84 w92 w93 w94 w95 w96
        omega
      have hP : va_P D vwCl [(q9, .inr (12, [.int 0, .int 4, .int 4, .ref (u11 0), .ref (u11 1), .ref (u11 2), .ref (u11 3), .int 0, .ref (u11 4), .ref (u11 5), .int 0, .ref (u11 6), .ref (u11 7), .ref (u11 8), .ref (u11 9), .ref (u11 10), .ref (u11 11), .ref (u11 12), .int 0, .ref (u11 13), .ref (u11 14), .ref (u11 15), .ref (u11 16), .ref (u11 17), .ref (u11 18), .int 0, .ref (u11 19), .int 0, .int 0, .int 0, .ref (u11 20), .int 0, .int 0, .ref (u11 21), .int 0, .ref (u11 60), .ref (u11 22), .ref (u11 23), .ref (u11 24), .ref (u11 61), .ref (u11 25), .ref (u11 26), .ref (u11 62), .ref (u11 63), .ref (u11 64), .ref (u11 27), .ref (u11 28), .ref (u11 29), .ref (u11 30), .ref (u11 31), .ref (u11 32), .ref (u11 33), .ref (u11 34), .ref (u11 35), .ref (u11 36), .ref (u11 37), .ref (u11 38), .ref (u11 65), .int 0, .int 0, .int 0, .int 0, .int 0, .long 0, .int 0, .int 0, .int 0, .int 0, .int 0, .int (-1), .int 0, .ref (u11 39), .ref (u11 40), .ref (u11 41), .ref (u11 42), .ref (u11 43), .int 0, .int 0, .ref (u11 44), .ref (u11 45), .ref (u11 46), .ref (u11 47), .ref (u11 48), .ref (u11 49), .ref (u11 50), .ref (u11 51), .int 0, .int 0, .int 0, .int 0, .ref (u11 52), .ref (u11 53), .int 0, .ref (u11 54), .ref (u11 55), .ref (u11 56), .ref (u11 57), .ref (u11 58), .ref (u11 59)])), (u11 2, .inl (K 0, 4, .inl (fun _ => 0))), (u11 3, .inl (K 0, 4, .inl (fun _ => 0)))] H := hP
      have hD : va_D A [(q9, .inr (12, [.int 0, .int 4, .int 4, .ref (u11 0), .ref (u11 1), .ref (u11 2), .ref (u11 3), .int 0, .ref (u11 4), .ref (u11 5), .int 0, .ref (u11 6), .ref (u11 7), .ref (u11 8), .ref (u11 9), .ref (u11 10), .ref (u11 11), .ref (u11 12), .int 0, .ref (u11 13), .ref (u11 14), .ref (u11 15), .ref (u11 16), .ref (u11 17), .ref (u11 18), .int 0, .ref (u11 19), .int 0, .int 0, .int 0, .ref (u11 20), .int 0, .int 0, .ref (u11 21), .int 0, .ref (u11 60), .ref (u11 22), .ref (u11 23), .ref (u11 24), .ref (u11 61), .ref (u11 25), .ref (u11 26), .ref (u11 62), .ref (u11 63), .ref (u11 64), .ref (u11 27), .ref (u11 28), .ref (u11 29), .ref (u11 30), .ref (u11 31), .ref (u11 32), .ref (u11 33), .ref (u11 34), .ref (u11 35), .ref (u11 36), .ref (u11 37), .ref (u11 38), .ref (u11 65), .int 0, .int 0, .int 0, .int 0, .int 0, .long 0, .int 0, .int 0, .int 0, .int 0, .int 0, .int (-1), .int 0, .ref (u11 39), .ref (u11 40), .ref (u11 41), .ref (u11 42), .ref (u11 43), .int 0, .int 0, .ref (u11 44), .ref (u11 45), .ref (u11 46), .ref (u11 47), .ref (u11 48), .ref (u11 49), .ref (u11 50), .ref (u11 51), .int 0, .int 0, .int 0, .int 0, .ref (u11 52), .ref (u11 53), .int 0, .ref (u11 54), .ref (u11 55), .ref (u11 56), .ref (u11 57), .ref (u11 58), .ref (u11 59)])), (u11 2, .inl (K 0, 4, .inl (fun _ => 0))), (u11 3, .inl (K 0, 4, .inl (fun _ => 0)))] := hD
      refine lv_aload_n hx hb dL_law_303 rfl (lv_at hl 1 rfl) ?_
      refine lv_pc (q := 304) rfl ?_
      refine lv_aload_n hx hb dL_law_304 rfl (lv_at hl 3 rfl) ?_
      refine lv_iload_n hx hb dL_law_305 rfl (lv_at hl 0 rfl) ?_
      refine lv_iconst (v := 1) hx hb dL_law_306 (by decide) ?_
      refine lv_iadd hx hb dL_law_307 ?_
      refine lv_fixi (y := 1) (by decide) ?_
      refine va_sld (i := 1) hx hb hX hbl hbA hS (by show ¬ (_ ∨ _); decide) dL_law_308 ?_
      refine lv_fixi (y := (xs 1)) rfl ?_
      refine lv_aload_n hx hb dL_law_309 rfl (lv_at hl 3 rfl) ?_
      refine lv_pc (q := 310) rfl ?_
      refine lv_iload_n hx hb dL_law_310 rfl (lv_at hl 0 rfl) ?_
      refine lv_iconst (v := 2) hx hb dL_law_311 (by decide) ?_
      refine lv_iadd hx hb dL_law_312 ?_
      refine lv_fixi (y := 2) (by decide) ?_
      refine va_sld (i := 2) hx hb hX hbl hbA hS (by show ¬ (_ ∨ _); decide) dL_law_313 ?_
      refine lv_fixi (y := (xs 2)) rfl ?_
      refine lv_aload_n hx hb dL_law_314 rfl (lv_at hl 3 rfl) ?_
      refine lv_iload_n hx hb dL_law_315 rfl (lv_at hl 0 rfl) ?_
      refine lv_pc (q := 316) rfl ?_
      refine lv_iconst (v := 3) hx hb dL_law_316 (by decide) ?_
      refine lv_iadd hx hb dL_law_317 ?_
      refine lv_fixi (y := 3) (by decide) ?_
      refine va_sld (i := 3) hx hb hX hbl hbA hS (by show ¬ (_ ∨ _); decide) dL_law_318 ?_
      refine lv_fixi (y := (xs 3)) rfl ?_
      refine uVi (As := [.int (xs 1), .int (xs 2), .int (xs 3)]) (rest := [.int 1]) (wr := []) [(q9, .inr (12, [.int 0, .int 4, .int 4, .ref (u11 0), .ref (u11 1), .ref (u11 2), .ref (u11 3), .int 0, .ref (u11 4), .ref (u11 5), .int 0, .ref (u11 6), .ref (u11 7), .ref (u11 8), .ref (u11 9), .ref (u11 10), .ref (u11 11), .ref (u11 12), .int 0, .ref (u11 13), .ref (u11 14), .ref (u11 15), .ref (u11 16), .ref (u11 17), .ref (u11 18), .int 0, .ref (u11 19), .int 0, .int 0, .int 0, .ref (u11 20), .int 0, .int 0, .ref (u11 21), .int 0, .ref (u11 60), .ref (u11 22), .ref (u11 23), .ref (u11 24), .ref (u11 61), .ref (u11 25), .ref (u11 26), .ref (u11 62), .ref (u11 63), .ref (u11 64), .ref (u11 27), .ref (u11 28), .ref (u11 29), .ref (u11 30), .ref (u11 31), .ref (u11 32), .ref (u11 33), .ref (u11 34), .ref (u11 35), .ref (u11 36), .ref (u11 37), .ref (u11 38), .ref (u11 65), .int 0, .int 0, .int 0, .int 0, .int 0, .long 0, .int 0, .int 0, .int 0, .int 0, .int 0, .int (-1), .int 0, .ref (u11 39), .ref (u11 40), .ref (u11 41), .ref (u11 42), .ref (u11 43), .int 0, .int 0, .ref (u11 44), .ref (u11 45), .ref (u11 46), .ref (u11 47), .ref (u11 48), .ref (u11 49), .ref (u11 50), .ref (u11 51), .int 0, .int 0, .int 0, .int 0, .ref (u11 52), .ref (u11 53), .int 0, .ref (u11 54), .ref (u11 55), .ref (u11 56), .ref (u11 57), .ref (u11 58), .ref (u11 59)])), (u11 2, .inl (K 0, 4, .inl (fun _ => 0))), (u11 3, .inl (K 0, 4, .inl (fun _ => 0)))] B hl.1 hP hD hS [0, 1, 2] [] rfl rfl rfl (kX12_trees_39 l D K _ q9 (u11 2) (u11 3) (u11 0) (u11 1) (u11 4) (u11 5) (u11 6) (u11 7) (u11 8) (u11 9) (u11 10) (u11 11) (u11 12) (u11 13) (u11 14) (u11 15) (u11 16) (u11 17) (u11 18) (u11 19) (u11 20) (u11 21) (u11 60) (u11 22) (u11 23) (u11 24) (u11 61) (u11 25) (u11 26) (u11 62) (u11 63) (u11 64) (u11 27) (u11 28) (u11 29) (u11 30) (u11 31) (u11 32) (u11 33) (u11 34) (u11 35) (u11 36) (u11 37) (u11 38) (u11 65) (u11 39) (u11 40) (u11 41) (u11 42) (u11 43) (u11 44) (u11 45) (u11 46) (u11 47) (u11 48) (u11 49) (u11 50) (u11 51) (u11 52) (u11 53) (u11 54) (u11 55) (u11 56) (u11 57) (u11 58) (u11 59) (fun _ => 0) (fun _ => 0) (xs 1) (xs 2) (xs 3)) wd_X12_trees mml_L_27 rfl rfl rfl rfl ⟨Nat.le_of_ble_eq_true rfl, Nat.le_of_ble_eq_true rfl⟩ (Nat.le_of_ble_eq_true rfl) ⟨Nat.le_of_ble_eq_true rfl, Nat.le_of_ble_eq_true rfl⟩ dL_law_319 (fun r97 u H locs hw hP hD hS => ?_)
      try dsimp only at hw
      rcases hw with ⟨rfl, w98⟩ | ⟨rfl, ⟨w99, w100, w101, w102, w103⟩⟩
      · have hP : va_P D vwCl [] H := hP
        have hD : va_D A [] := hD
        exfalso
        try simp only [fa_lt, fa_le, fa_eq, Int32.reduceToInt] at w85 w86 w87 w88 w89 w98
        omega
      have hP : va_P D vwCl [] H := hP
      have hD : va_D A [] := hD
      refine lv_icmp_eq (tgt := 1474) hx hb dL_law_322 (by decide) (fun _ => ?_) (fun h9 => absurd (by decide) h9)
      refine lv_iinc (v := 7) (lv' := [(3, .int 7), (2, .ref q9), (1, .ref q1), (0, .ref b)]) hx hb dL_law_1474 hl (k := 0) rfl (by decide) (by decide) rfl (fun ls hl => ?_)
      refine lv_pc (q := 1477) rfl ?_
      refine lv_goto (tgt := 18) hx hb dL_law_1477 (by decide) ?_
      refine lv_iload_n hx hb dL_law_18 rfl (lv_at hl 0 rfl) ?_
      refine lv_aload_n hx hb dL_law_19 rfl (lv_at hl 3 rfl) ?_
      refine va_slen hx hb hX hbl hbA hS dL_law_20 ?_
      refine lv_fixi (y := 7) (by decide) ?_
      refine lv_bipush (v := 7) hx hb dL_law_21 (by decide) ?_
      refine lv_isub hx hb dL_law_23 ?_
      refine lv_fixi (y := 0) (by decide) ?_
      refine lv_pc (q := 24) rfl ?_
      refine lv_icmp_gt (tgt := 1480) hx hb dL_law_24 (by decide) (fun _ => ?_) (fun h9 => absurd (by decide) h9)
      refine lv_iconst (v := 1) hx hb dL_law_1480 (by decide) ?_
      refine va_forget (fun q hq => by have h9 := hS.2.2 q hq; rw [hAe] at h9; exact h9) ?_
      refine W.widen (k := 600000) (n := 7302250) (by decide) (by decide) ?_
      exact lw_ret hx hb hr hlocks dL_law_1481
    · refine lv_fixi (y := 3) ejj ?_
      refine lv_tableIn (off := 294) (tgt := 327) hx hb dL_law_33 (by decide) (by decide) rfl (by decide) ?_
      replace hP := uSub (wc := [(q1, .inr (11, [.ref (u3 0), .ref (u3 7), .ref (u3 16), .ref (u3 17), .ref (u3 24), .ref (u3 27), .ref (u3 30), .ref (u3 33), .ref (u3 62), .ref (u3 77), .ref (u3 50)])), (u3 0, .inr (9, [.ref (u3 1), .ref (u3 2), .ref (u3 3), .ref (u3 4), .ref (u3 5), .ref (u3 6), .int 4, .int 4, .int 0])), (q9, .inr (12, [.int 0, .int 4, .int 4, .ref (u11 0), .ref (u11 1), .ref (u11 2), .ref (u11 3), .int 0, .ref (u11 4), .ref (u11 5), .int 0, .ref (u11 6), .ref (u11 7), .ref (u11 8), .ref (u11 9), .ref (u11 10), .ref (u11 11), .ref (u11 12), .int 0, .ref (u11 13), .ref (u11 14), .ref (u11 15), .ref (u11 16), .ref (u11 17), .ref (u11 18), .int 0, .ref (u11 19), .int 0, .int 0, .int 0, .ref (u11 20), .int 0, .int 0, .ref (u11 21), .int 0, .ref (u11 60), .ref (u11 22), .ref (u11 23), .ref (u11 24), .ref (u11 61), .ref (u11 25), .ref (u11 26), .ref (u11 62), .ref (u11 63), .ref (u11 64), .ref (u11 27), .ref (u11 28), .ref (u11 29), .ref (u11 30), .ref (u11 31), .ref (u11 32), .ref (u11 33), .ref (u11 34), .ref (u11 35), .ref (u11 36), .ref (u11 37), .ref (u11 38), .ref (u11 65), .int 0, .int 0, .int 0, .int 0, .int 0, .long 0, .int 0, .int 0, .int 0, .int 0, .int 0, .int (-1), .int 0, .ref (u11 39), .ref (u11 40), .ref (u11 41), .ref (u11 42), .ref (u11 43), .int 0, .int 0, .ref (u11 44), .ref (u11 45), .ref (u11 46), .ref (u11 47), .ref (u11 48), .ref (u11 49), .ref (u11 50), .ref (u11 51), .int 0, .int 0, .int 0, .int 0, .ref (u11 52), .ref (u11 53), .int 0, .ref (u11 54), .ref (u11 55), .ref (u11 56), .ref (u11 57), .ref (u11 58), .ref (u11 59)]))]) hP [0, 1, 97] rfl
      replace hD := hD.sub (ws' := [(q1, .inr (11, [.ref (u3 0), .ref (u3 7), .ref (u3 16), .ref (u3 17), .ref (u3 24), .ref (u3 27), .ref (u3 30), .ref (u3 33), .ref (u3 62), .ref (u3 77), .ref (u3 50)])), (u3 0, .inr (9, [.ref (u3 1), .ref (u3 2), .ref (u3 3), .ref (u3 4), .ref (u3 5), .ref (u3 6), .int 4, .int 4, .int 0])), (q9, .inr (12, [.int 0, .int 4, .int 4, .ref (u11 0), .ref (u11 1), .ref (u11 2), .ref (u11 3), .int 0, .ref (u11 4), .ref (u11 5), .int 0, .ref (u11 6), .ref (u11 7), .ref (u11 8), .ref (u11 9), .ref (u11 10), .ref (u11 11), .ref (u11 12), .int 0, .ref (u11 13), .ref (u11 14), .ref (u11 15), .ref (u11 16), .ref (u11 17), .ref (u11 18), .int 0, .ref (u11 19), .int 0, .int 0, .int 0, .ref (u11 20), .int 0, .int 0, .ref (u11 21), .int 0, .ref (u11 60), .ref (u11 22), .ref (u11 23), .ref (u11 24), .ref (u11 61), .ref (u11 25), .ref (u11 26), .ref (u11 62), .ref (u11 63), .ref (u11 64), .ref (u11 27), .ref (u11 28), .ref (u11 29), .ref (u11 30), .ref (u11 31), .ref (u11 32), .ref (u11 33), .ref (u11 34), .ref (u11 35), .ref (u11 36), .ref (u11 37), .ref (u11 38), .ref (u11 65), .int 0, .int 0, .int 0, .int 0, .int 0, .long 0, .int 0, .int 0, .int 0, .int 0, .int 0, .int (-1), .int 0, .ref (u11 39), .ref (u11 40), .ref (u11 41), .ref (u11 42), .ref (u11 43), .int 0, .int 0, .ref (u11 44), .ref (u11 45), .ref (u11 46), .ref (u11 47), .ref (u11 48), .ref (u11 49), .ref (u11 50), .ref (u11 51), .int 0, .int 0, .int 0, .int 0, .ref (u11 52), .ref (u11 53), .int 0, .ref (u11 54), .ref (u11 55), .ref (u11 56), .ref (u11 57), .ref (u11 58), .ref (u11 59)]))]) [0, 1, 97] rfl rfl
      refine lv_pc (q := 327) rfl ?_
      refine lv_aload_n hx hb dL_law_327 rfl (lv_at hl 2 rfl) ?_
      refine lv_aload_n hx hb dL_law_328 rfl (lv_at hl 3 rfl) ?_
      refine lv_iload_n hx hb dL_law_329 rfl (lv_at hl 0 rfl) ?_
      refine lv_iconst (v := 1) hx hb dL_law_330 (by decide) ?_
      refine lv_iadd hx hb dL_law_331 ?_
      refine lv_fixi (y := 1) (by decide) ?_
      refine va_sld (i := 1) hx hb hX hbl hbA hS (by show ¬ (_ ∨ _); decide) dL_law_332 ?_
      refine lv_fixi (y := (xs 1)) rfl ?_
      refine lv_pc (q := 333) rfl ?_
      refine uVi (As := [.int (xs 1)]) (rest := []) (wr := [(q9, .inr (12, [.int 0, .int 4, .int 4, .ref (u11 0), .ref (u11 1), .ref (u11 2), .ref (u11 3), .int 0, .ref (u11 4), .ref (u11 5), .int 0, .ref (u11 6), .ref (u11 7), .ref (u11 8), .ref (u11 9), .ref (u11 10), .ref (u11 11), .ref (u11 12), .int 0, .ref (u11 13), .ref (u11 14), .ref (u11 15), .ref (u11 16), .ref (u11 17), .ref (u11 18), .int 0, .ref (u11 19), .int 0, .int 0, .int 0, .ref (u11 20), .int 0, .int 0, .ref (u11 21), .int 0, .ref (u11 60), .ref (u11 22), .ref (u11 23), .ref (u11 24), .ref (u11 61), .ref (u11 25), .ref (u11 26), .ref (u11 62), .ref (u11 63), .ref (u11 64), .ref (u11 27), .ref (u11 28), .ref (u11 29), .ref (u11 30), .ref (u11 31), .ref (u11 32), .ref (u11 33), .ref (u11 34), .ref (u11 35), .ref (u11 36), .ref (u11 37), .ref (u11 38), .ref (u11 65), .int 0, .int 0, .int 0, .int 0, .int 0, .long 0, .int 0, .int 0, .int 0, .int 0, .int 0, .int (-1), .int 0, .ref (u11 39), .ref (u11 40), .ref (u11 41), .ref (u11 42), .ref (u11 43), .int 0, .int 0, .ref (u11 44), .ref (u11 45), .ref (u11 46), .ref (u11 47), .ref (u11 48), .ref (u11 49), .ref (u11 50), .ref (u11 51), .int 0, .int 0, .int 0, .int 0, .ref (u11 52), .ref (u11 53), .int 0, .ref (u11 54), .ref (u11 55), .ref (u11 56), .ref (u11 57), .ref (u11 58), .ref (u11 59)]))]) [(q1, .inr (11, [.ref (u3 0), .ref (u3 7), .ref (u3 16), .ref (u3 17), .ref (u3 24), .ref (u3 27), .ref (u3 30), .ref (u3 33), .ref (u3 62), .ref (u3 77), .ref (u3 50)])), (u3 0, .inr (9, [.ref (u3 1), .ref (u3 2), .ref (u3 3), .ref (u3 4), .ref (u3 5), .ref (u3 6), .int 4, .int 4, .int 0]))] B hl.1 hP hD hS [0, 1] [2] rfl rfl rfl (kX11_bend_41 l D K _ q1 (u3 0) (u3 7) (u3 16) (u3 17) (u3 24) (u3 27) (u3 30) (u3 33) (u3 62) (u3 77) (u3 50) (u3 1) (u3 2) (u3 3) (u3 4) (u3 5) (u3 6) (xs 1)) wd_X11_bend mml_L_28 rfl rfl rfl rfl ⟨Nat.le_of_ble_eq_true rfl, Nat.le_of_ble_eq_true rfl⟩ (Nat.le_of_ble_eq_true rfl) ⟨Nat.le_of_ble_eq_true rfl, Nat.le_of_ble_eq_true rfl⟩ dL_law_333 (fun r104 u H locs hw hP hD hS => ?_)
      try dsimp only at hw
      rcases hw with ⟨rfl, w105⟩ | ⟨rfl, ⟨w106, w107⟩⟩
      · have hP : va_P D vwCl [(q9, .inr (12, [.int 0, .int 4, .int 4, .ref (u11 0), .ref (u11 1), .ref (u11 2), .ref (u11 3), .int 0, .ref (u11 4), .ref (u11 5), .int 0, .ref (u11 6), .ref (u11 7), .ref (u11 8), .ref (u11 9), .ref (u11 10), .ref (u11 11), .ref (u11 12), .int 0, .ref (u11 13), .ref (u11 14), .ref (u11 15), .ref (u11 16), .ref (u11 17), .ref (u11 18), .int 0, .ref (u11 19), .int 0, .int 0, .int 0, .ref (u11 20), .int 0, .int 0, .ref (u11 21), .int 0, .ref (u11 60), .ref (u11 22), .ref (u11 23), .ref (u11 24), .ref (u11 61), .ref (u11 25), .ref (u11 26), .ref (u11 62), .ref (u11 63), .ref (u11 64), .ref (u11 27), .ref (u11 28), .ref (u11 29), .ref (u11 30), .ref (u11 31), .ref (u11 32), .ref (u11 33), .ref (u11 34), .ref (u11 35), .ref (u11 36), .ref (u11 37), .ref (u11 38), .ref (u11 65), .int 0, .int 0, .int 0, .int 0, .int 0, .long 0, .int 0, .int 0, .int 0, .int 0, .int 0, .int (-1), .int 0, .ref (u11 39), .ref (u11 40), .ref (u11 41), .ref (u11 42), .ref (u11 43), .int 0, .int 0, .ref (u11 44), .ref (u11 45), .ref (u11 46), .ref (u11 47), .ref (u11 48), .ref (u11 49), .ref (u11 50), .ref (u11 51), .int 0, .int 0, .int 0, .int 0, .ref (u11 52), .ref (u11 53), .int 0, .ref (u11 54), .ref (u11 55), .ref (u11 56), .ref (u11 57), .ref (u11 58), .ref (u11 59)]))] H := hP
        have hD : va_D A [(q9, .inr (12, [.int 0, .int 4, .int 4, .ref (u11 0), .ref (u11 1), .ref (u11 2), .ref (u11 3), .int 0, .ref (u11 4), .ref (u11 5), .int 0, .ref (u11 6), .ref (u11 7), .ref (u11 8), .ref (u11 9), .ref (u11 10), .ref (u11 11), .ref (u11 12), .int 0, .ref (u11 13), .ref (u11 14), .ref (u11 15), .ref (u11 16), .ref (u11 17), .ref (u11 18), .int 0, .ref (u11 19), .int 0, .int 0, .int 0, .ref (u11 20), .int 0, .int 0, .ref (u11 21), .int 0, .ref (u11 60), .ref (u11 22), .ref (u11 23), .ref (u11 24), .ref (u11 61), .ref (u11 25), .ref (u11 26), .ref (u11 62), .ref (u11 63), .ref (u11 64), .ref (u11 27), .ref (u11 28), .ref (u11 29), .ref (u11 30), .ref (u11 31), .ref (u11 32), .ref (u11 33), .ref (u11 34), .ref (u11 35), .ref (u11 36), .ref (u11 37), .ref (u11 38), .ref (u11 65), .int 0, .int 0, .int 0, .int 0, .int 0, .long 0, .int 0, .int 0, .int 0, .int 0, .int 0, .int (-1), .int 0, .ref (u11 39), .ref (u11 40), .ref (u11 41), .ref (u11 42), .ref (u11 43), .int 0, .int 0, .ref (u11 44), .ref (u11 45), .ref (u11 46), .ref (u11 47), .ref (u11 48), .ref (u11 49), .ref (u11 50), .ref (u11 51), .int 0, .int 0, .int 0, .int 0, .ref (u11 52), .ref (u11 53), .int 0, .ref (u11 54), .ref (u11 55), .ref (u11 56), .ref (u11 57), .ref (u11 58), .ref (u11 59)]))] := hD
        refine lv_aload_n hx hb dL_law_336 rfl (lv_at hl 1 rfl) ?_
        refine lv_aload_n hx hb dL_law_337 rfl (lv_at hl 3 rfl) ?_
        refine lv_iload_n hx hb dL_law_338 rfl (lv_at hl 0 rfl) ?_
        refine lv_iconst (v := 1) hx hb dL_law_339 (by decide) ?_
        refine lv_iadd hx hb dL_law_340 ?_
        refine lv_fixi (y := 1) (by decide) ?_
        refine lv_pc (q := 341) rfl ?_
        refine va_sld (i := 1) hx hb hX hbl hbA hS (by show ¬ (_ ∨ _); decide) dL_law_341 ?_
        refine lv_fixi (y := (xs 1)) rfl ?_
        refine uVi (As := [.int (xs 1)]) (rest := [.int 0]) (wr := []) [(q9, .inr (12, [.int 0, .int 4, .int 4, .ref (u11 0), .ref (u11 1), .ref (u11 2), .ref (u11 3), .int 0, .ref (u11 4), .ref (u11 5), .int 0, .ref (u11 6), .ref (u11 7), .ref (u11 8), .ref (u11 9), .ref (u11 10), .ref (u11 11), .ref (u11 12), .int 0, .ref (u11 13), .ref (u11 14), .ref (u11 15), .ref (u11 16), .ref (u11 17), .ref (u11 18), .int 0, .ref (u11 19), .int 0, .int 0, .int 0, .ref (u11 20), .int 0, .int 0, .ref (u11 21), .int 0, .ref (u11 60), .ref (u11 22), .ref (u11 23), .ref (u11 24), .ref (u11 61), .ref (u11 25), .ref (u11 26), .ref (u11 62), .ref (u11 63), .ref (u11 64), .ref (u11 27), .ref (u11 28), .ref (u11 29), .ref (u11 30), .ref (u11 31), .ref (u11 32), .ref (u11 33), .ref (u11 34), .ref (u11 35), .ref (u11 36), .ref (u11 37), .ref (u11 38), .ref (u11 65), .int 0, .int 0, .int 0, .int 0, .int 0, .long 0, .int 0, .int 0, .int 0, .int 0, .int 0, .int (-1), .int 0, .ref (u11 39), .ref (u11 40), .ref (u11 41), .ref (u11 42), .ref (u11 43), .int 0, .int 0, .ref (u11 44), .ref (u11 45), .ref (u11 46), .ref (u11 47), .ref (u11 48), .ref (u11 49), .ref (u11 50), .ref (u11 51), .int 0, .int 0, .int 0, .int 0, .ref (u11 52), .ref (u11 53), .int 0, .ref (u11 54), .ref (u11 55), .ref (u11 56), .ref (u11 57), .ref (u11 58), .ref (u11 59)]))] B hl.1 hP hD hS [0] [] rfl rfl rfl (kX12_bend_42 l D K _ q9 (u11 0) (u11 1) (u11 2) (u11 3) (u11 4) (u11 5) (u11 6) (u11 7) (u11 8) (u11 9) (u11 10) (u11 11) (u11 12) (u11 13) (u11 14) (u11 15) (u11 16) (u11 17) (u11 18) (u11 19) (u11 20) (u11 21) (u11 60) (u11 22) (u11 23) (u11 24) (u11 61) (u11 25) (u11 26) (u11 62) (u11 63) (u11 64) (u11 27) (u11 28) (u11 29) (u11 30) (u11 31) (u11 32) (u11 33) (u11 34) (u11 35) (u11 36) (u11 37) (u11 38) (u11 65) (u11 39) (u11 40) (u11 41) (u11 42) (u11 43) (u11 44) (u11 45) (u11 46) (u11 47) (u11 48) (u11 49) (u11 50) (u11 51) (u11 52) (u11 53) (u11 54) (u11 55) (u11 56) (u11 57) (u11 58) (u11 59) (xs 1)) wd_X12_bend mml_L_32 rfl rfl rfl rfl ⟨Nat.le_of_ble_eq_true rfl, Nat.le_of_ble_eq_true rfl⟩ (Nat.le_of_ble_eq_true rfl) ⟨Nat.le_of_ble_eq_true rfl, Nat.le_of_ble_eq_true rfl⟩ dL_law_342 (fun r108 u H locs hw hP hD hS => ?_)
        try dsimp only at hw
        rcases hw with ⟨rfl, w109⟩ | ⟨rfl, ⟨w110, w111⟩⟩
        · have hP : va_P D vwCl [] H := hP
          have hD : va_D A [] := hD
          refine lv_icmp_eq (tgt := 1474) hx hb dL_law_345 (by decide) (fun _ => ?_) (fun h9 => absurd (by decide) h9)
          refine lv_iinc (v := 7) (lv' := [(3, .int 7), (2, .ref q9), (1, .ref q1), (0, .ref b)]) hx hb dL_law_1474 hl (k := 0) rfl (by decide) (by decide) rfl (fun ls hl => ?_)
          refine lv_goto (tgt := 18) hx hb dL_law_1477 (by decide) ?_
          refine lv_iload_n hx hb dL_law_18 rfl (lv_at hl 0 rfl) ?_
          refine lv_pc (q := 19) rfl ?_
          refine lv_aload_n hx hb dL_law_19 rfl (lv_at hl 3 rfl) ?_
          refine va_slen hx hb hX hbl hbA hS dL_law_20 ?_
          refine lv_fixi (y := 7) (by decide) ?_
          refine lv_bipush (v := 7) hx hb dL_law_21 (by decide) ?_
          refine lv_isub hx hb dL_law_23 ?_
          refine lv_fixi (y := 0) (by decide) ?_
          refine lv_icmp_gt (tgt := 1480) hx hb dL_law_24 (by decide) (fun _ => ?_) (fun h9 => absurd (by decide) h9)
          refine lv_iconst (v := 1) hx hb dL_law_1480 (by decide) ?_
          refine lv_pc (q := 1481) rfl ?_
          refine va_forget (fun q hq => by have h9 := hS.2.2 q hq; rw [hAe] at h9; exact h9) ?_
          refine W.widen (k := 600000) (n := 7302250) (by decide) (by decide) ?_
          exact lw_ret hx hb hr hlocks dL_law_1481
        have hP : va_P D vwCl [] H := hP
        have hD : va_D A [] := hD
        exfalso
        try simp only [fa_lt, fa_le, fa_eq, Int32.reduceToInt] at w105 w110 w111
        omega
      have hP : va_P D vwCl [(q9, .inr (12, [.int 0, .int 4, .int 4, .ref (u11 0), .ref (u11 1), .ref (u11 2), .ref (u11 3), .int 0, .ref (u11 4), .ref (u11 5), .int 0, .ref (u11 6), .ref (u11 7), .ref (u11 8), .ref (u11 9), .ref (u11 10), .ref (u11 11), .ref (u11 12), .int 0, .ref (u11 13), .ref (u11 14), .ref (u11 15), .ref (u11 16), .ref (u11 17), .ref (u11 18), .int 0, .ref (u11 19), .int 0, .int 0, .int 0, .ref (u11 20), .int 0, .int 0, .ref (u11 21), .int 0, .ref (u11 60), .ref (u11 22), .ref (u11 23), .ref (u11 24), .ref (u11 61), .ref (u11 25), .ref (u11 26), .ref (u11 62), .ref (u11 63), .ref (u11 64), .ref (u11 27), .ref (u11 28), .ref (u11 29), .ref (u11 30), .ref (u11 31), .ref (u11 32), .ref (u11 33), .ref (u11 34), .ref (u11 35), .ref (u11 36), .ref (u11 37), .ref (u11 38), .ref (u11 65), .int 0, .int 0, .int 0, .int 0, .int 0, .long 0, .int 0, .int 0, .int 0, .int 0, .int 0, .int (-1), .int 0, .ref (u11 39), .ref (u11 40), .ref (u11 41), .ref (u11 42), .ref (u11 43), .int 0, .int 0, .ref (u11 44), .ref (u11 45), .ref (u11 46), .ref (u11 47), .ref (u11 48), .ref (u11 49), .ref (u11 50), .ref (u11 51), .int 0, .int 0, .int 0, .int 0, .ref (u11 52), .ref (u11 53), .int 0, .ref (u11 54), .ref (u11 55), .ref (u11 56), .ref (u11 57), .ref (u11 58), .ref (u11 59)]))] H := hP
      have hD : va_D A [(q9, .inr (12, [.int 0, .int 4, .int 4, .ref (u11 0), .ref (u11 1), .ref (u11 2), .ref (u11 3), .int 0, .ref (u11 4), .ref (u11 5), .int 0, .ref (u11 6), .ref (u11 7), .ref (u11 8), .ref (u11 9), .ref (u11 10), .ref (u11 11), .ref (u11 12), .int 0, .ref (u11 13), .ref (u11 14), .ref (u11 15), .ref (u11 16), .ref (u11 17), .ref (u11 18), .int 0, .ref (u11 19), .int 0, .int 0, .int 0, .ref (u11 20), .int 0, .int 0, .ref (u11 21), .int 0, .ref (u11 60), .ref (u11 22), .ref (u11 23), .ref (u11 24), .ref (u11 61), .ref (u11 25), .ref (u11 26), .ref (u11 62), .ref (u11 63), .ref (u11 64), .ref (u11 27), .ref (u11 28), .ref (u11 29), .ref (u11 30), .ref (u11 31), .ref (u11 32), .ref (u11 33), .ref (u11 34), .ref (u11 35), .ref (u11 36), .ref (u11 37), .ref (u11 38), .ref (u11 65), .int 0, .int 0, .int 0, .int 0, .int 0, .long 0, .int 0, .int 0, .int 0, .int 0, .int 0, .int (-1), .int 0, .ref (u11 39), .ref (u11 40), .ref (u11 41), .ref (u11 42), .ref (u11 43), .int 0, .int 0, .ref (u11 44), .ref (u11 45), .ref (u11 46), .ref (u11 47), .ref (u11 48), .ref (u11 49), .ref (u11 50), .ref (u11 51), .int 0, .int 0, .int 0, .int 0, .ref (u11 52), .ref (u11 53), .int 0, .ref (u11 54), .ref (u11 55), .ref (u11 56), .ref (u11 57), .ref (u11 58), .ref (u11 59)]))] := hD
      refine lv_aload_n hx hb dL_law_336 rfl (lv_at hl 1 rfl) ?_
      refine lv_aload_n hx hb dL_law_337 rfl (lv_at hl 3 rfl) ?_
      refine lv_iload_n hx hb dL_law_338 rfl (lv_at hl 0 rfl) ?_
      refine lv_iconst (v := 1) hx hb dL_law_339 (by decide) ?_
      refine lv_iadd hx hb dL_law_340 ?_
      refine lv_fixi (y := 1) (by decide) ?_
      refine lv_pc (q := 341) rfl ?_
      refine va_sld (i := 1) hx hb hX hbl hbA hS (by show ¬ (_ ∨ _); decide) dL_law_341 ?_
      refine lv_fixi (y := (xs 1)) rfl ?_
      refine uVi (As := [.int (xs 1)]) (rest := [.int 1]) (wr := []) [(q9, .inr (12, [.int 0, .int 4, .int 4, .ref (u11 0), .ref (u11 1), .ref (u11 2), .ref (u11 3), .int 0, .ref (u11 4), .ref (u11 5), .int 0, .ref (u11 6), .ref (u11 7), .ref (u11 8), .ref (u11 9), .ref (u11 10), .ref (u11 11), .ref (u11 12), .int 0, .ref (u11 13), .ref (u11 14), .ref (u11 15), .ref (u11 16), .ref (u11 17), .ref (u11 18), .int 0, .ref (u11 19), .int 0, .int 0, .int 0, .ref (u11 20), .int 0, .int 0, .ref (u11 21), .int 0, .ref (u11 60), .ref (u11 22), .ref (u11 23), .ref (u11 24), .ref (u11 61), .ref (u11 25), .ref (u11 26), .ref (u11 62), .ref (u11 63), .ref (u11 64), .ref (u11 27), .ref (u11 28), .ref (u11 29), .ref (u11 30), .ref (u11 31), .ref (u11 32), .ref (u11 33), .ref (u11 34), .ref (u11 35), .ref (u11 36), .ref (u11 37), .ref (u11 38), .ref (u11 65), .int 0, .int 0, .int 0, .int 0, .int 0, .long 0, .int 0, .int 0, .int 0, .int 0, .int 0, .int (-1), .int 0, .ref (u11 39), .ref (u11 40), .ref (u11 41), .ref (u11 42), .ref (u11 43), .int 0, .int 0, .ref (u11 44), .ref (u11 45), .ref (u11 46), .ref (u11 47), .ref (u11 48), .ref (u11 49), .ref (u11 50), .ref (u11 51), .int 0, .int 0, .int 0, .int 0, .ref (u11 52), .ref (u11 53), .int 0, .ref (u11 54), .ref (u11 55), .ref (u11 56), .ref (u11 57), .ref (u11 58), .ref (u11 59)]))] B hl.1 hP hD hS [0] [] rfl rfl rfl (kX12_bend_42 l D K _ q9 (u11 0) (u11 1) (u11 2) (u11 3) (u11 4) (u11 5) (u11 6) (u11 7) (u11 8) (u11 9) (u11 10) (u11 11) (u11 12) (u11 13) (u11 14) (u11 15) (u11 16) (u11 17) (u11 18) (u11 19) (u11 20) (u11 21) (u11 60) (u11 22) (u11 23) (u11 24) (u11 61) (u11 25) (u11 26) (u11 62) (u11 63) (u11 64) (u11 27) (u11 28) (u11 29) (u11 30) (u11 31) (u11 32) (u11 33) (u11 34) (u11 35) (u11 36) (u11 37) (u11 38) (u11 65) (u11 39) (u11 40) (u11 41) (u11 42) (u11 43) (u11 44) (u11 45) (u11 46) (u11 47) (u11 48) (u11 49) (u11 50) (u11 51) (u11 52) (u11 53) (u11 54) (u11 55) (u11 56) (u11 57) (u11 58) (u11 59) (xs 1)) wd_X12_bend mml_L_32 rfl rfl rfl rfl ⟨Nat.le_of_ble_eq_true rfl, Nat.le_of_ble_eq_true rfl⟩ (Nat.le_of_ble_eq_true rfl) ⟨Nat.le_of_ble_eq_true rfl, Nat.le_of_ble_eq_true rfl⟩ dL_law_342 (fun r112 u H locs hw hP hD hS => ?_)
      try dsimp only at hw
      rcases hw with ⟨rfl, w113⟩ | ⟨rfl, ⟨w114, w115⟩⟩
      · have hP : va_P D vwCl [] H := hP
        have hD : va_D A [] := hD
        exfalso
        try simp only [fa_lt, fa_le, fa_eq, Int32.reduceToInt] at w106 w107 w113
        omega
      have hP : va_P D vwCl [] H := hP
      have hD : va_D A [] := hD
      refine lv_icmp_eq (tgt := 1474) hx hb dL_law_345 (by decide) (fun _ => ?_) (fun h9 => absurd (by decide) h9)
      refine lv_iinc (v := 7) (lv' := [(3, .int 7), (2, .ref q9), (1, .ref q1), (0, .ref b)]) hx hb dL_law_1474 hl (k := 0) rfl (by decide) (by decide) rfl (fun ls hl => ?_)
      refine lv_goto (tgt := 18) hx hb dL_law_1477 (by decide) ?_
      refine lv_iload_n hx hb dL_law_18 rfl (lv_at hl 0 rfl) ?_
      refine lv_pc (q := 19) rfl ?_
      refine lv_aload_n hx hb dL_law_19 rfl (lv_at hl 3 rfl) ?_
      refine va_slen hx hb hX hbl hbA hS dL_law_20 ?_
      refine lv_fixi (y := 7) (by decide) ?_
      refine lv_bipush (v := 7) hx hb dL_law_21 (by decide) ?_
      refine lv_isub hx hb dL_law_23 ?_
      refine lv_fixi (y := 0) (by decide) ?_
      refine lv_icmp_gt (tgt := 1480) hx hb dL_law_24 (by decide) (fun _ => ?_) (fun h9 => absurd (by decide) h9)
      refine lv_iconst (v := 1) hx hb dL_law_1480 (by decide) ?_
      refine lv_pc (q := 1481) rfl ?_
      refine va_forget (fun q hq => by have h9 := hS.2.2 q hq; rw [hAe] at h9; exact h9) ?_
      refine W.widen (k := 600000) (n := 7302250) (by decide) (by decide) ?_
      exact lw_ret hx hb hr hlocks dL_law_1481
    · refine lv_fixi (y := 4) ejj ?_
      refine lv_tableIn (off := 317) (tgt := 350) hx hb dL_law_33 (by decide) (by decide) rfl (by decide) ?_
      replace hP := uSub (wc := [(q1, .inr (11, [.ref (u3 0), .ref (u3 7), .ref (u3 16), .ref (u3 17), .ref (u3 24), .ref (u3 27), .ref (u3 30), .ref (u3 33), .ref (u3 62), .ref (u3 77), .ref (u3 50)])), (u3 0, .inr (9, [.ref (u3 1), .ref (u3 2), .ref (u3 3), .ref (u3 4), .ref (u3 5), .ref (u3 6), .int 4, .int 4, .int 0])), (u3 5, .inl (K 0, 24, .inl u4)), (u3 6, .inl (K 0, 24, .inl u5)), (q9, .inr (12, [.int 0, .int 4, .int 4, .ref (u11 0), .ref (u11 1), .ref (u11 2), .ref (u11 3), .int 0, .ref (u11 4), .ref (u11 5), .int 0, .ref (u11 6), .ref (u11 7), .ref (u11 8), .ref (u11 9), .ref (u11 10), .ref (u11 11), .ref (u11 12), .int 0, .ref (u11 13), .ref (u11 14), .ref (u11 15), .ref (u11 16), .ref (u11 17), .ref (u11 18), .int 0, .ref (u11 19), .int 0, .int 0, .int 0, .ref (u11 20), .int 0, .int 0, .ref (u11 21), .int 0, .ref (u11 60), .ref (u11 22), .ref (u11 23), .ref (u11 24), .ref (u11 61), .ref (u11 25), .ref (u11 26), .ref (u11 62), .ref (u11 63), .ref (u11 64), .ref (u11 27), .ref (u11 28), .ref (u11 29), .ref (u11 30), .ref (u11 31), .ref (u11 32), .ref (u11 33), .ref (u11 34), .ref (u11 35), .ref (u11 36), .ref (u11 37), .ref (u11 38), .ref (u11 65), .int 0, .int 0, .int 0, .int 0, .int 0, .long 0, .int 0, .int 0, .int 0, .int 0, .int 0, .int (-1), .int 0, .ref (u11 39), .ref (u11 40), .ref (u11 41), .ref (u11 42), .ref (u11 43), .int 0, .int 0, .ref (u11 44), .ref (u11 45), .ref (u11 46), .ref (u11 47), .ref (u11 48), .ref (u11 49), .ref (u11 50), .ref (u11 51), .int 0, .int 0, .int 0, .int 0, .ref (u11 52), .ref (u11 53), .int 0, .ref (u11 54), .ref (u11 55), .ref (u11 56), .ref (u11 57), .ref (u11 58), .ref (u11 59)])), (u11 4, .inl (K 0, 24, .inl u12)), (u11 5, .inl (K 0, 24, .inl u13))]) hP [0, 1, 6, 7, 97, 102, 103] rfl
      replace hD := hD.sub (ws' := [(q1, .inr (11, [.ref (u3 0), .ref (u3 7), .ref (u3 16), .ref (u3 17), .ref (u3 24), .ref (u3 27), .ref (u3 30), .ref (u3 33), .ref (u3 62), .ref (u3 77), .ref (u3 50)])), (u3 0, .inr (9, [.ref (u3 1), .ref (u3 2), .ref (u3 3), .ref (u3 4), .ref (u3 5), .ref (u3 6), .int 4, .int 4, .int 0])), (u3 5, .inl (K 0, 24, .inl u4)), (u3 6, .inl (K 0, 24, .inl u5)), (q9, .inr (12, [.int 0, .int 4, .int 4, .ref (u11 0), .ref (u11 1), .ref (u11 2), .ref (u11 3), .int 0, .ref (u11 4), .ref (u11 5), .int 0, .ref (u11 6), .ref (u11 7), .ref (u11 8), .ref (u11 9), .ref (u11 10), .ref (u11 11), .ref (u11 12), .int 0, .ref (u11 13), .ref (u11 14), .ref (u11 15), .ref (u11 16), .ref (u11 17), .ref (u11 18), .int 0, .ref (u11 19), .int 0, .int 0, .int 0, .ref (u11 20), .int 0, .int 0, .ref (u11 21), .int 0, .ref (u11 60), .ref (u11 22), .ref (u11 23), .ref (u11 24), .ref (u11 61), .ref (u11 25), .ref (u11 26), .ref (u11 62), .ref (u11 63), .ref (u11 64), .ref (u11 27), .ref (u11 28), .ref (u11 29), .ref (u11 30), .ref (u11 31), .ref (u11 32), .ref (u11 33), .ref (u11 34), .ref (u11 35), .ref (u11 36), .ref (u11 37), .ref (u11 38), .ref (u11 65), .int 0, .int 0, .int 0, .int 0, .int 0, .long 0, .int 0, .int 0, .int 0, .int 0, .int 0, .int (-1), .int 0, .ref (u11 39), .ref (u11 40), .ref (u11 41), .ref (u11 42), .ref (u11 43), .int 0, .int 0, .ref (u11 44), .ref (u11 45), .ref (u11 46), .ref (u11 47), .ref (u11 48), .ref (u11 49), .ref (u11 50), .ref (u11 51), .int 0, .int 0, .int 0, .int 0, .ref (u11 52), .ref (u11 53), .int 0, .ref (u11 54), .ref (u11 55), .ref (u11 56), .ref (u11 57), .ref (u11 58), .ref (u11 59)])), (u11 4, .inl (K 0, 24, .inl u12)), (u11 5, .inl (K 0, 24, .inl u13))]) [0, 1, 6, 7, 97, 102, 103] rfl rfl
      refine lv_pc (q := 350) rfl ?_
      refine lv_aload_n hx hb dL_law_350 rfl (lv_at hl 2 rfl) ?_
      refine lv_aload_n hx hb dL_law_351 rfl (lv_at hl 3 rfl) ?_
      refine lv_iload_n hx hb dL_law_352 rfl (lv_at hl 0 rfl) ?_
      refine lv_iconst (v := 1) hx hb dL_law_353 (by decide) ?_
      refine lv_iadd hx hb dL_law_354 ?_
      refine lv_fixi (y := 1) (by decide) ?_
      refine va_sld (i := 1) hx hb hX hbl hbA hS (by show ¬ (_ ∨ _); decide) dL_law_355 ?_
      refine lv_fixi (y := (xs 1)) rfl ?_
      refine lv_pc (q := 356) rfl ?_
      refine lv_aload_n hx hb dL_law_356 rfl (lv_at hl 3 rfl) ?_
      refine lv_iload_n hx hb dL_law_357 rfl (lv_at hl 0 rfl) ?_
      refine lv_iconst (v := 2) hx hb dL_law_358 (by decide) ?_
      refine lv_iadd hx hb dL_law_359 ?_
      refine lv_fixi (y := 2) (by decide) ?_
      refine va_sld (i := 2) hx hb hX hbl hbA hS (by show ¬ (_ ∨ _); decide) dL_law_360 ?_
      refine lv_fixi (y := (xs 2)) rfl ?_
      refine lv_aload_n hx hb dL_law_361 rfl (lv_at hl 3 rfl) ?_
      refine lv_pc (q := 362) rfl ?_
      refine lv_iload_n hx hb dL_law_362 rfl (lv_at hl 0 rfl) ?_
      refine lv_iconst (v := 3) hx hb dL_law_363 (by decide) ?_
      refine lv_iadd hx hb dL_law_364 ?_
      refine lv_fixi (y := 3) (by decide) ?_
      refine va_sld (i := 3) hx hb hX hbl hbA hS (by show ¬ (_ ∨ _); decide) dL_law_365 ?_
      refine lv_fixi (y := (xs 3)) rfl ?_
      refine lv_aload_n hx hb dL_law_366 rfl (lv_at hl 3 rfl) ?_
      refine lv_iload_n hx hb dL_law_367 rfl (lv_at hl 0 rfl) ?_
      refine lv_pc (q := 368) rfl ?_
      refine lv_iconst (v := 4) hx hb dL_law_368 (by decide) ?_
      refine lv_iadd hx hb dL_law_369 ?_
      refine lv_fixi (y := 4) (by decide) ?_
      refine va_sld (i := 4) hx hb hX hbl hbA hS (by show ¬ (_ ∨ _); decide) dL_law_370 ?_
      refine lv_fixi (y := (xs 4)) rfl ?_
      refine uVi (As := [.int (xs 1), .int (xs 2), .int (xs 3), .int (xs 4)]) (rest := []) (wr := [(q9, .inr (12, [.int 0, .int 4, .int 4, .ref (u11 0), .ref (u11 1), .ref (u11 2), .ref (u11 3), .int 0, .ref (u11 4), .ref (u11 5), .int 0, .ref (u11 6), .ref (u11 7), .ref (u11 8), .ref (u11 9), .ref (u11 10), .ref (u11 11), .ref (u11 12), .int 0, .ref (u11 13), .ref (u11 14), .ref (u11 15), .ref (u11 16), .ref (u11 17), .ref (u11 18), .int 0, .ref (u11 19), .int 0, .int 0, .int 0, .ref (u11 20), .int 0, .int 0, .ref (u11 21), .int 0, .ref (u11 60), .ref (u11 22), .ref (u11 23), .ref (u11 24), .ref (u11 61), .ref (u11 25), .ref (u11 26), .ref (u11 62), .ref (u11 63), .ref (u11 64), .ref (u11 27), .ref (u11 28), .ref (u11 29), .ref (u11 30), .ref (u11 31), .ref (u11 32), .ref (u11 33), .ref (u11 34), .ref (u11 35), .ref (u11 36), .ref (u11 37), .ref (u11 38), .ref (u11 65), .int 0, .int 0, .int 0, .int 0, .int 0, .long 0, .int 0, .int 0, .int 0, .int 0, .int 0, .int (-1), .int 0, .ref (u11 39), .ref (u11 40), .ref (u11 41), .ref (u11 42), .ref (u11 43), .int 0, .int 0, .ref (u11 44), .ref (u11 45), .ref (u11 46), .ref (u11 47), .ref (u11 48), .ref (u11 49), .ref (u11 50), .ref (u11 51), .int 0, .int 0, .int 0, .int 0, .ref (u11 52), .ref (u11 53), .int 0, .ref (u11 54), .ref (u11 55), .ref (u11 56), .ref (u11 57), .ref (u11 58), .ref (u11 59)])), (u11 4, .inl (K 0, 24, .inl u12)), (u11 5, .inl (K 0, 24, .inl u13))]) [(q1, .inr (11, [.ref (u3 0), .ref (u3 7), .ref (u3 16), .ref (u3 17), .ref (u3 24), .ref (u3 27), .ref (u3 30), .ref (u3 33), .ref (u3 62), .ref (u3 77), .ref (u3 50)])), (u3 0, .inr (9, [.ref (u3 1), .ref (u3 2), .ref (u3 3), .ref (u3 4), .ref (u3 5), .ref (u3 6), .int 4, .int 4, .int 0])), (u3 5, .inl (K 0, 24, .inl u4)), (u3 6, .inl (K 0, 24, .inl u5))] B hl.1 hP hD hS [0, 1, 2, 3] [4, 5, 6] rfl rfl rfl (kX11_haze_45 l D K _ q1 (u3 0) (u3 5) (u3 6) (u3 7) (u3 16) (u3 17) (u3 24) (u3 27) (u3 30) (u3 33) (u3 62) (u3 77) (u3 50) (u3 1) (u3 2) (u3 3) (u3 4) u4 u5 (xs 1) (xs 2) (xs 3) (xs 4)) wd_X11_haze mml_L_33 rfl rfl rfl rfl ⟨Nat.le_of_ble_eq_true rfl, Nat.le_of_ble_eq_true rfl⟩ (Nat.le_of_ble_eq_true rfl) ⟨Nat.le_of_ble_eq_true rfl, Nat.le_of_ble_eq_true rfl⟩ dL_law_371 (fun r116 u H locs hw hP hD hS => ?_)
      try dsimp only at hw
      rcases hw with ⟨rfl, w117⟩ | ⟨rfl, ⟨w118, w119, w120, w121, w122, w123, w124⟩⟩
      · have hP : va_P D vwCl [(q9, .inr (12, [.int 0, .int 4, .int 4, .ref (u11 0), .ref (u11 1), .ref (u11 2), .ref (u11 3), .int 0, .ref (u11 4), .ref (u11 5), .int 0, .ref (u11 6), .ref (u11 7), .ref (u11 8), .ref (u11 9), .ref (u11 10), .ref (u11 11), .ref (u11 12), .int 0, .ref (u11 13), .ref (u11 14), .ref (u11 15), .ref (u11 16), .ref (u11 17), .ref (u11 18), .int 0, .ref (u11 19), .int 0, .int 0, .int 0, .ref (u11 20), .int 0, .int 0, .ref (u11 21), .int 0, .ref (u11 60), .ref (u11 22), .ref (u11 23), .ref (u11 24), .ref (u11 61), .ref (u11 25), .ref (u11 26), .ref (u11 62), .ref (u11 63), .ref (u11 64), .ref (u11 27), .ref (u11 28), .ref (u11 29), .ref (u11 30), .ref (u11 31), .ref (u11 32), .ref (u11 33), .ref (u11 34), .ref (u11 35), .ref (u11 36), .ref (u11 37), .ref (u11 38), .ref (u11 65), .int 0, .int 0, .int 0, .int 0, .int 0, .long 0, .int 0, .int 0, .int 0, .int 0, .int 0, .int (-1), .int 0, .ref (u11 39), .ref (u11 40), .ref (u11 41), .ref (u11 42), .ref (u11 43), .int 0, .int 0, .ref (u11 44), .ref (u11 45), .ref (u11 46), .ref (u11 47), .ref (u11 48), .ref (u11 49), .ref (u11 50), .ref (u11 51), .int 0, .int 0, .int 0, .int 0, .ref (u11 52), .ref (u11 53), .int 0, .ref (u11 54), .ref (u11 55), .ref (u11 56), .ref (u11 57), .ref (u11 58), .ref (u11 59)])), (u11 4, .inl (K 0, 24, .inl u12)), (u11 5, .inl (K 0, 24, .inl u13))] H := hP
        have hD : va_D A [(q9, .inr (12, [.int 0, .int 4, .int 4, .ref (u11 0), .ref (u11 1), .ref (u11 2), .ref (u11 3), .int 0, .ref (u11 4), .ref (u11 5), .int 0, .ref (u11 6), .ref (u11 7), .ref (u11 8), .ref (u11 9), .ref (u11 10), .ref (u11 11), .ref (u11 12), .int 0, .ref (u11 13), .ref (u11 14), .ref (u11 15), .ref (u11 16), .ref (u11 17), .ref (u11 18), .int 0, .ref (u11 19), .int 0, .int 0, .int 0, .ref (u11 20), .int 0, .int 0, .ref (u11 21), .int 0, .ref (u11 60), .ref (u11 22), .ref (u11 23), .ref (u11 24), .ref (u11 61), .ref (u11 25), .ref (u11 26), .ref (u11 62), .ref (u11 63), .ref (u11 64), .ref (u11 27), .ref (u11 28), .ref (u11 29), .ref (u11 30), .ref (u11 31), .ref (u11 32), .ref (u11 33), .ref (u11 34), .ref (u11 35), .ref (u11 36), .ref (u11 37), .ref (u11 38), .ref (u11 65), .int 0, .int 0, .int 0, .int 0, .int 0, .long 0, .int 0, .int 0, .int 0, .int 0, .int 0, .int (-1), .int 0, .ref (u11 39), .ref (u11 40), .ref (u11 41), .ref (u11 42), .ref (u11 43), .int 0, .int 0, .ref (u11 44), .ref (u11 45), .ref (u11 46), .ref (u11 47), .ref (u11 48), .ref (u11 49), .ref (u11 50), .ref (u11 51), .int 0, .int 0, .int 0, .int 0, .ref (u11 52), .ref (u11 53), .int 0, .ref (u11 54), .ref (u11 55), .ref (u11 56), .ref (u11 57), .ref (u11 58), .ref (u11 59)])), (u11 4, .inl (K 0, 24, .inl u12)), (u11 5, .inl (K 0, 24, .inl u13))] := hD
        refine lv_aload_n hx hb dL_law_374 rfl (lv_at hl 1 rfl) ?_
        refine lv_aload_n hx hb dL_law_375 rfl (lv_at hl 3 rfl) ?_
        refine lv_pc (q := 376) rfl ?_
        refine lv_iload_n hx hb dL_law_376 rfl (lv_at hl 0 rfl) ?_
        refine lv_iconst (v := 1) hx hb dL_law_377 (by decide) ?_
        refine lv_iadd hx hb dL_law_378 ?_
        refine lv_fixi (y := 1) (by decide) ?_
        refine va_sld (i := 1) hx hb hX hbl hbA hS (by show ¬ (_ ∨ _); decide) dL_law_379 ?_
        refine lv_fixi (y := (xs 1)) rfl ?_
        refine lv_aload_n hx hb dL_law_380 rfl (lv_at hl 3 rfl) ?_
        refine lv_iload_n hx hb dL_law_381 rfl (lv_at hl 0 rfl) ?_
        refine lv_pc (q := 382) rfl ?_
        refine lv_iconst (v := 2) hx hb dL_law_382 (by decide) ?_
        refine lv_iadd hx hb dL_law_383 ?_
        refine lv_fixi (y := 2) (by decide) ?_
        refine va_sld (i := 2) hx hb hX hbl hbA hS (by show ¬ (_ ∨ _); decide) dL_law_384 ?_
        refine lv_fixi (y := (xs 2)) rfl ?_
        refine lv_aload_n hx hb dL_law_385 rfl (lv_at hl 3 rfl) ?_
        refine lv_iload_n hx hb dL_law_386 rfl (lv_at hl 0 rfl) ?_
        refine lv_iconst (v := 3) hx hb dL_law_387 (by decide) ?_
        refine lv_pc (q := 388) rfl ?_
        refine lv_iadd hx hb dL_law_388 ?_
        refine lv_fixi (y := 3) (by decide) ?_
        refine va_sld (i := 3) hx hb hX hbl hbA hS (by show ¬ (_ ∨ _); decide) dL_law_389 ?_
        refine lv_fixi (y := (xs 3)) rfl ?_
        refine lv_aload_n hx hb dL_law_390 rfl (lv_at hl 3 rfl) ?_
        refine lv_iload_n hx hb dL_law_391 rfl (lv_at hl 0 rfl) ?_
        refine lv_iconst (v := 4) hx hb dL_law_392 (by decide) ?_
        refine lv_iadd hx hb dL_law_393 ?_
        refine lv_fixi (y := 4) (by decide) ?_
        refine lv_pc (q := 394) rfl ?_
        refine va_sld (i := 4) hx hb hX hbl hbA hS (by show ¬ (_ ∨ _); decide) dL_law_394 ?_
        refine lv_fixi (y := (xs 4)) rfl ?_
        refine uVi (As := [.int (xs 1), .int (xs 2), .int (xs 3), .int (xs 4)]) (rest := [.int 0]) (wr := []) [(q9, .inr (12, [.int 0, .int 4, .int 4, .ref (u11 0), .ref (u11 1), .ref (u11 2), .ref (u11 3), .int 0, .ref (u11 4), .ref (u11 5), .int 0, .ref (u11 6), .ref (u11 7), .ref (u11 8), .ref (u11 9), .ref (u11 10), .ref (u11 11), .ref (u11 12), .int 0, .ref (u11 13), .ref (u11 14), .ref (u11 15), .ref (u11 16), .ref (u11 17), .ref (u11 18), .int 0, .ref (u11 19), .int 0, .int 0, .int 0, .ref (u11 20), .int 0, .int 0, .ref (u11 21), .int 0, .ref (u11 60), .ref (u11 22), .ref (u11 23), .ref (u11 24), .ref (u11 61), .ref (u11 25), .ref (u11 26), .ref (u11 62), .ref (u11 63), .ref (u11 64), .ref (u11 27), .ref (u11 28), .ref (u11 29), .ref (u11 30), .ref (u11 31), .ref (u11 32), .ref (u11 33), .ref (u11 34), .ref (u11 35), .ref (u11 36), .ref (u11 37), .ref (u11 38), .ref (u11 65), .int 0, .int 0, .int 0, .int 0, .int 0, .long 0, .int 0, .int 0, .int 0, .int 0, .int 0, .int (-1), .int 0, .ref (u11 39), .ref (u11 40), .ref (u11 41), .ref (u11 42), .ref (u11 43), .int 0, .int 0, .ref (u11 44), .ref (u11 45), .ref (u11 46), .ref (u11 47), .ref (u11 48), .ref (u11 49), .ref (u11 50), .ref (u11 51), .int 0, .int 0, .int 0, .int 0, .ref (u11 52), .ref (u11 53), .int 0, .ref (u11 54), .ref (u11 55), .ref (u11 56), .ref (u11 57), .ref (u11 58), .ref (u11 59)])), (u11 4, .inl (K 0, 24, .inl u12)), (u11 5, .inl (K 0, 24, .inl u13))] B hl.1 hP hD hS [0, 1, 2] [] rfl rfl rfl (kX12_haze_47 l D K _ q9 (u11 4) (u11 5) (u11 0) (u11 1) (u11 2) (u11 3) (u11 6) (u11 7) (u11 8) (u11 9) (u11 10) (u11 11) (u11 12) (u11 13) (u11 14) (u11 15) (u11 16) (u11 17) (u11 18) (u11 19) (u11 20) (u11 21) (u11 60) (u11 22) (u11 23) (u11 24) (u11 61) (u11 25) (u11 26) (u11 62) (u11 63) (u11 64) (u11 27) (u11 28) (u11 29) (u11 30) (u11 31) (u11 32) (u11 33) (u11 34) (u11 35) (u11 36) (u11 37) (u11 38) (u11 65) (u11 39) (u11 40) (u11 41) (u11 42) (u11 43) (u11 44) (u11 45) (u11 46) (u11 47) (u11 48) (u11 49) (u11 50) (u11 51) (u11 52) (u11 53) (u11 54) (u11 55) (u11 56) (u11 57) (u11 58) (u11 59) u12 u13 (xs 1) (xs 2) (xs 3) (xs 4)) wd_X12_haze mml_L_37 rfl rfl rfl rfl ⟨Nat.le_of_ble_eq_true rfl, Nat.le_of_ble_eq_true rfl⟩ (Nat.le_of_ble_eq_true rfl) ⟨Nat.le_of_ble_eq_true rfl, Nat.le_of_ble_eq_true rfl⟩ dL_law_395 (fun r125 u H locs hw hP hD hS => ?_)
        try dsimp only at hw
        rcases hw with ⟨rfl, w126⟩ | ⟨rfl, ⟨w127, w128, w129, w130, w131, w132, w133⟩⟩
        · have hP : va_P D vwCl [] H := hP
          have hD : va_D A [] := hD
          refine lv_icmp_eq (tgt := 1474) hx hb dL_law_398 (by decide) (fun _ => ?_) (fun h9 => absurd (by decide) h9)
          refine lv_iinc (v := 7) (lv' := [(3, .int 7), (2, .ref q9), (1, .ref q1), (0, .ref b)]) hx hb dL_law_1474 hl (k := 0) rfl (by decide) (by decide) rfl (fun ls hl => ?_)
          refine lv_goto (tgt := 18) hx hb dL_law_1477 (by decide) ?_
          refine lv_iload_n hx hb dL_law_18 rfl (lv_at hl 0 rfl) ?_
          refine lv_pc (q := 19) rfl ?_
          refine lv_aload_n hx hb dL_law_19 rfl (lv_at hl 3 rfl) ?_
          refine va_slen hx hb hX hbl hbA hS dL_law_20 ?_
          refine lv_fixi (y := 7) (by decide) ?_
          refine lv_bipush (v := 7) hx hb dL_law_21 (by decide) ?_
          refine lv_isub hx hb dL_law_23 ?_
          refine lv_fixi (y := 0) (by decide) ?_
          refine lv_icmp_gt (tgt := 1480) hx hb dL_law_24 (by decide) (fun _ => ?_) (fun h9 => absurd (by decide) h9)
          refine lv_iconst (v := 1) hx hb dL_law_1480 (by decide) ?_
          refine lv_pc (q := 1481) rfl ?_
          refine va_forget (fun q hq => by have h9 := hS.2.2 q hq; rw [hAe] at h9; exact h9) ?_
          refine W.widen (k := 600000) (n := 7302250) (by decide) (by decide) ?_
          exact lw_ret hx hb hr hlocks dL_law_1481
        have hP : va_P D vwCl [] H := hP
        have hD : va_D A [] := hD
        exfalso
        try simp only [fa_lt, fa_le, fa_eq, Int32.reduceToInt] at w117 w127 w128 w129 w130 w131 w132 w133
        omega
      have hP : va_P D vwCl [(q9, .inr (12, [.int 0, .int 4, .int 4, .ref (u11 0), .ref (u11 1), .ref (u11 2), .ref (u11 3), .int 0, .ref (u11 4), .ref (u11 5), .int 0, .ref (u11 6), .ref (u11 7), .ref (u11 8), .ref (u11 9), .ref (u11 10), .ref (u11 11), .ref (u11 12), .int 0, .ref (u11 13), .ref (u11 14), .ref (u11 15), .ref (u11 16), .ref (u11 17), .ref (u11 18), .int 0, .ref (u11 19), .int 0, .int 0, .int 0, .ref (u11 20), .int 0, .int 0, .ref (u11 21), .int 0, .ref (u11 60), .ref (u11 22), .ref (u11 23), .ref (u11 24), .ref (u11 61), .ref (u11 25), .ref (u11 26), .ref (u11 62), .ref (u11 63), .ref (u11 64), .ref (u11 27), .ref (u11 28), .ref (u11 29), .ref (u11 30), .ref (u11 31), .ref (u11 32), .ref (u11 33), .ref (u11 34), .ref (u11 35), .ref (u11 36), .ref (u11 37), .ref (u11 38), .ref (u11 65), .int 0, .int 0, .int 0, .int 0, .int 0, .long 0, .int 0, .int 0, .int 0, .int 0, .int 0, .int (-1), .int 0, .ref (u11 39), .ref (u11 40), .ref (u11 41), .ref (u11 42), .ref (u11 43), .int 0, .int 0, .ref (u11 44), .ref (u11 45), .ref (u11 46), .ref (u11 47), .ref (u11 48), .ref (u11 49), .ref (u11 50), .ref (u11 51), .int 0, .int 0, .int 0, .int 0, .ref (u11 52), .ref (u11 53), .int 0, .ref (u11 54), .ref (u11 55), .ref (u11 56), .ref (u11 57), .ref (u11 58), .ref (u11 59)])), (u11 4, .inl (K 0, 24, .inl u12)), (u11 5, .inl (K 0, 24, .inl u13))] H := hP
      have hD : va_D A [(q9, .inr (12, [.int 0, .int 4, .int 4, .ref (u11 0), .ref (u11 1), .ref (u11 2), .ref (u11 3), .int 0, .ref (u11 4), .ref (u11 5), .int 0, .ref (u11 6), .ref (u11 7), .ref (u11 8), .ref (u11 9), .ref (u11 10), .ref (u11 11), .ref (u11 12), .int 0, .ref (u11 13), .ref (u11 14), .ref (u11 15), .ref (u11 16), .ref (u11 17), .ref (u11 18), .int 0, .ref (u11 19), .int 0, .int 0, .int 0, .ref (u11 20), .int 0, .int 0, .ref (u11 21), .int 0, .ref (u11 60), .ref (u11 22), .ref (u11 23), .ref (u11 24), .ref (u11 61), .ref (u11 25), .ref (u11 26), .ref (u11 62), .ref (u11 63), .ref (u11 64), .ref (u11 27), .ref (u11 28), .ref (u11 29), .ref (u11 30), .ref (u11 31), .ref (u11 32), .ref (u11 33), .ref (u11 34), .ref (u11 35), .ref (u11 36), .ref (u11 37), .ref (u11 38), .ref (u11 65), .int 0, .int 0, .int 0, .int 0, .int 0, .long 0, .int 0, .int 0, .int 0, .int 0, .int 0, .int (-1), .int 0, .ref (u11 39), .ref (u11 40), .ref (u11 41), .ref (u11 42), .ref (u11 43), .int 0, .int 0, .ref (u11 44), .ref (u11 45), .ref (u11 46), .ref (u11 47), .ref (u11 48), .ref (u11 49), .ref (u11 50), .ref (u11 51), .int 0, .int 0, .int 0, .int 0, .ref (u11 52), .ref (u11 53), .int 0, .ref (u11 54), .ref (u11 55), .ref (u11 56), .ref (u11 57), .ref (u11 58), .ref (u11 59)])), (u11 4, .inl (K 0, 24, .inl u12)), (u11 5, .inl (K 0, 24, .inl u13))] := hD
      refine lv_aload_n hx hb dL_law_374 rfl (lv_at hl 1 rfl) ?_
      refine lv_aload_n hx hb dL_law_375 rfl (lv_at hl 3 rfl) ?_
      refine lv_pc (q := 376) rfl ?_
      refine lv_iload_n hx hb dL_law_376 rfl (lv_at hl 0 rfl) ?_
      refine lv_iconst (v := 1) hx hb dL_law_377 (by decide) ?_
      refine lv_iadd hx hb dL_law_378 ?_
      refine lv_fixi (y := 1) (by decide) ?_
      refine va_sld (i := 1) hx hb hX hbl hbA hS (by show ¬ (_ ∨ _); decide) dL_law_379 ?_
      refine lv_fixi (y := (xs 1)) rfl ?_
      refine lv_aload_n hx hb dL_law_380 rfl (lv_at hl 3 rfl) ?_
      refine lv_iload_n hx hb dL_law_381 rfl (lv_at hl 0 rfl) ?_
      refine lv_pc (q := 382) rfl ?_
      refine lv_iconst (v := 2) hx hb dL_law_382 (by decide) ?_
      refine lv_iadd hx hb dL_law_383 ?_
      refine lv_fixi (y := 2) (by decide) ?_
      refine va_sld (i := 2) hx hb hX hbl hbA hS (by show ¬ (_ ∨ _); decide) dL_law_384 ?_
      refine lv_fixi (y := (xs 2)) rfl ?_
      refine lv_aload_n hx hb dL_law_385 rfl (lv_at hl 3 rfl) ?_
      refine lv_iload_n hx hb dL_law_386 rfl (lv_at hl 0 rfl) ?_
      refine lv_iconst (v := 3) hx hb dL_law_387 (by decide) ?_
      refine lv_pc (q := 388) rfl ?_
      refine lv_iadd hx hb dL_law_388 ?_
      refine lv_fixi (y := 3) (by decide) ?_
      refine va_sld (i := 3) hx hb hX hbl hbA hS (by show ¬ (_ ∨ _); decide) dL_law_389 ?_
      refine lv_fixi (y := (xs 3)) rfl ?_
      refine lv_aload_n hx hb dL_law_390 rfl (lv_at hl 3 rfl) ?_
      refine lv_iload_n hx hb dL_law_391 rfl (lv_at hl 0 rfl) ?_
      refine lv_iconst (v := 4) hx hb dL_law_392 (by decide) ?_
      refine lv_iadd hx hb dL_law_393 ?_
      refine lv_fixi (y := 4) (by decide) ?_
      refine lv_pc (q := 394) rfl ?_
      refine va_sld (i := 4) hx hb hX hbl hbA hS (by show ¬ (_ ∨ _); decide) dL_law_394 ?_
      refine lv_fixi (y := (xs 4)) rfl ?_
      refine uVi (As := [.int (xs 1), .int (xs 2), .int (xs 3), .int (xs 4)]) (rest := [.int 1]) (wr := []) [(q9, .inr (12, [.int 0, .int 4, .int 4, .ref (u11 0), .ref (u11 1), .ref (u11 2), .ref (u11 3), .int 0, .ref (u11 4), .ref (u11 5), .int 0, .ref (u11 6), .ref (u11 7), .ref (u11 8), .ref (u11 9), .ref (u11 10), .ref (u11 11), .ref (u11 12), .int 0, .ref (u11 13), .ref (u11 14), .ref (u11 15), .ref (u11 16), .ref (u11 17), .ref (u11 18), .int 0, .ref (u11 19), .int 0, .int 0, .int 0, .ref (u11 20), .int 0, .int 0, .ref (u11 21), .int 0, .ref (u11 60), .ref (u11 22), .ref (u11 23), .ref (u11 24), .ref (u11 61), .ref (u11 25), .ref (u11 26), .ref (u11 62), .ref (u11 63), .ref (u11 64), .ref (u11 27), .ref (u11 28), .ref (u11 29), .ref (u11 30), .ref (u11 31), .ref (u11 32), .ref (u11 33), .ref (u11 34), .ref (u11 35), .ref (u11 36), .ref (u11 37), .ref (u11 38), .ref (u11 65), .int 0, .int 0, .int 0, .int 0, .int 0, .long 0, .int 0, .int 0, .int 0, .int 0, .int 0, .int (-1), .int 0, .ref (u11 39), .ref (u11 40), .ref (u11 41), .ref (u11 42), .ref (u11 43), .int 0, .int 0, .ref (u11 44), .ref (u11 45), .ref (u11 46), .ref (u11 47), .ref (u11 48), .ref (u11 49), .ref (u11 50), .ref (u11 51), .int 0, .int 0, .int 0, .int 0, .ref (u11 52), .ref (u11 53), .int 0, .ref (u11 54), .ref (u11 55), .ref (u11 56), .ref (u11 57), .ref (u11 58), .ref (u11 59)])), (u11 4, .inl (K 0, 24, .inl u12)), (u11 5, .inl (K 0, 24, .inl u13))] B hl.1 hP hD hS [0, 1, 2] [] rfl rfl rfl (kX12_haze_47 l D K _ q9 (u11 4) (u11 5) (u11 0) (u11 1) (u11 2) (u11 3) (u11 6) (u11 7) (u11 8) (u11 9) (u11 10) (u11 11) (u11 12) (u11 13) (u11 14) (u11 15) (u11 16) (u11 17) (u11 18) (u11 19) (u11 20) (u11 21) (u11 60) (u11 22) (u11 23) (u11 24) (u11 61) (u11 25) (u11 26) (u11 62) (u11 63) (u11 64) (u11 27) (u11 28) (u11 29) (u11 30) (u11 31) (u11 32) (u11 33) (u11 34) (u11 35) (u11 36) (u11 37) (u11 38) (u11 65) (u11 39) (u11 40) (u11 41) (u11 42) (u11 43) (u11 44) (u11 45) (u11 46) (u11 47) (u11 48) (u11 49) (u11 50) (u11 51) (u11 52) (u11 53) (u11 54) (u11 55) (u11 56) (u11 57) (u11 58) (u11 59) u12 u13 (xs 1) (xs 2) (xs 3) (xs 4)) wd_X12_haze mml_L_37 rfl rfl rfl rfl ⟨Nat.le_of_ble_eq_true rfl, Nat.le_of_ble_eq_true rfl⟩ (Nat.le_of_ble_eq_true rfl) ⟨Nat.le_of_ble_eq_true rfl, Nat.le_of_ble_eq_true rfl⟩ dL_law_395 (fun r134 u H locs hw hP hD hS => ?_)
      try dsimp only at hw
      rcases hw with ⟨rfl, w135⟩ | ⟨rfl, ⟨w136, w137, w138, w139, w140, w141, w142⟩⟩
      · have hP : va_P D vwCl [] H := hP
        have hD : va_D A [] := hD
        exfalso
        try simp only [fa_lt, fa_le, fa_eq, Int32.reduceToInt] at w118 w119 w120 w121 w122 w123 w124 w135
        omega
      have hP : va_P D vwCl [] H := hP
      have hD : va_D A [] := hD
      refine lv_icmp_eq (tgt := 1474) hx hb dL_law_398 (by decide) (fun _ => ?_) (fun h9 => absurd (by decide) h9)
      refine lv_iinc (v := 7) (lv' := [(3, .int 7), (2, .ref q9), (1, .ref q1), (0, .ref b)]) hx hb dL_law_1474 hl (k := 0) rfl (by decide) (by decide) rfl (fun ls hl => ?_)
      refine lv_goto (tgt := 18) hx hb dL_law_1477 (by decide) ?_
      refine lv_iload_n hx hb dL_law_18 rfl (lv_at hl 0 rfl) ?_
      refine lv_pc (q := 19) rfl ?_
      refine lv_aload_n hx hb dL_law_19 rfl (lv_at hl 3 rfl) ?_
      refine va_slen hx hb hX hbl hbA hS dL_law_20 ?_
      refine lv_fixi (y := 7) (by decide) ?_
      refine lv_bipush (v := 7) hx hb dL_law_21 (by decide) ?_
      refine lv_isub hx hb dL_law_23 ?_
      refine lv_fixi (y := 0) (by decide) ?_
      refine lv_icmp_gt (tgt := 1480) hx hb dL_law_24 (by decide) (fun _ => ?_) (fun h9 => absurd (by decide) h9)
      refine lv_iconst (v := 1) hx hb dL_law_1480 (by decide) ?_
      refine lv_pc (q := 1481) rfl ?_
      refine va_forget (fun q hq => by have h9 := hS.2.2 q hq; rw [hAe] at h9; exact h9) ?_
      refine W.widen (k := 600000) (n := 7302250) (by decide) (by decide) ?_
      exact lw_ret hx hb hr hlocks dL_law_1481
    · refine lv_fixi (y := 5) ejj ?_
      refine lv_tableIn (off := 370) (tgt := 403) hx hb dL_law_33 (by decide) (by decide) rfl (by decide) ?_
      replace hP := uSub (wc := [(q1, .inr (11, [.ref (u3 0), .ref (u3 7), .ref (u3 16), .ref (u3 17), .ref (u3 24), .ref (u3 27), .ref (u3 30), .ref (u3 33), .ref (u3 62), .ref (u3 77), .ref (u3 50)])), (u3 0, .inr (9, [.ref (u3 1), .ref (u3 2), .ref (u3 3), .ref (u3 4), .ref (u3 5), .ref (u3 6), .int 4, .int 4, .int 0])), (u3 7, .inr (4, [.ref (u3 0), .ref (u3 8), .ref (u3 9), .ref (u3 10), .ref (u3 11), .ref (u3 12), .ref (u3 13), .ref (u3 14), .ref (u3 15), .int 0])), (u3 8, .inl (K 0, 12, .inl (fun _ => 0))), (u3 9, .inl (K 0, 12, .inl (fun _ => 0))), (u3 10, .inl (K 0, 12, .inl (fun _ => 0))), (u3 11, .inl (K 0, 12, .inl (fun _ => 0))), (u3 12, .inl (K 0, 12, .inl (fun _ => 0))), (u3 13, .inl (K 0, 12, .inl (fun _ => 0))), (u3 14, .inl (K 0, 12, .inl (fun _ => 0))), (u3 15, .inl (K 0, 12, .inl (fun _ => 0))), (q9, .inr (12, [.int 0, .int 4, .int 4, .ref (u11 0), .ref (u11 1), .ref (u11 2), .ref (u11 3), .int 0, .ref (u11 4), .ref (u11 5), .int 0, .ref (u11 6), .ref (u11 7), .ref (u11 8), .ref (u11 9), .ref (u11 10), .ref (u11 11), .ref (u11 12), .int 0, .ref (u11 13), .ref (u11 14), .ref (u11 15), .ref (u11 16), .ref (u11 17), .ref (u11 18), .int 0, .ref (u11 19), .int 0, .int 0, .int 0, .ref (u11 20), .int 0, .int 0, .ref (u11 21), .int 0, .ref (u11 60), .ref (u11 22), .ref (u11 23), .ref (u11 24), .ref (u11 61), .ref (u11 25), .ref (u11 26), .ref (u11 62), .ref (u11 63), .ref (u11 64), .ref (u11 27), .ref (u11 28), .ref (u11 29), .ref (u11 30), .ref (u11 31), .ref (u11 32), .ref (u11 33), .ref (u11 34), .ref (u11 35), .ref (u11 36), .ref (u11 37), .ref (u11 38), .ref (u11 65), .int 0, .int 0, .int 0, .int 0, .int 0, .long 0, .int 0, .int 0, .int 0, .int 0, .int 0, .int (-1), .int 0, .ref (u11 39), .ref (u11 40), .ref (u11 41), .ref (u11 42), .ref (u11 43), .int 0, .int 0, .ref (u11 44), .ref (u11 45), .ref (u11 46), .ref (u11 47), .ref (u11 48), .ref (u11 49), .ref (u11 50), .ref (u11 51), .int 0, .int 0, .int 0, .int 0, .ref (u11 52), .ref (u11 53), .int 0, .ref (u11 54), .ref (u11 55), .ref (u11 56), .ref (u11 57), .ref (u11 58), .ref (u11 59)])), (u11 6, .inl (K 0, 12, .inl (fun _ => 0))), (u11 7, .inl (K 0, 12, .inl (fun _ => 0))), (u11 8, .inl (K 0, 12, .inl (fun _ => 0))), (u11 9, .inl (K 0, 12, .inl (fun _ => 0))), (u11 10, .inl (K 0, 12, .inl (fun _ => 0))), (u11 11, .inl (K 0, 12, .inl (fun _ => 0))), (u11 12, .inl (K 0, 12, .inl (fun _ => 0)))]) hP [0, 1, 8, 9, 10, 11, 12, 13, 14, 15, 16, 97, 104, 105, 106, 107, 108, 109, 110] rfl
      replace hD := hD.sub (ws' := [(q1, .inr (11, [.ref (u3 0), .ref (u3 7), .ref (u3 16), .ref (u3 17), .ref (u3 24), .ref (u3 27), .ref (u3 30), .ref (u3 33), .ref (u3 62), .ref (u3 77), .ref (u3 50)])), (u3 0, .inr (9, [.ref (u3 1), .ref (u3 2), .ref (u3 3), .ref (u3 4), .ref (u3 5), .ref (u3 6), .int 4, .int 4, .int 0])), (u3 7, .inr (4, [.ref (u3 0), .ref (u3 8), .ref (u3 9), .ref (u3 10), .ref (u3 11), .ref (u3 12), .ref (u3 13), .ref (u3 14), .ref (u3 15), .int 0])), (u3 8, .inl (K 0, 12, .inl (fun _ => 0))), (u3 9, .inl (K 0, 12, .inl (fun _ => 0))), (u3 10, .inl (K 0, 12, .inl (fun _ => 0))), (u3 11, .inl (K 0, 12, .inl (fun _ => 0))), (u3 12, .inl (K 0, 12, .inl (fun _ => 0))), (u3 13, .inl (K 0, 12, .inl (fun _ => 0))), (u3 14, .inl (K 0, 12, .inl (fun _ => 0))), (u3 15, .inl (K 0, 12, .inl (fun _ => 0))), (q9, .inr (12, [.int 0, .int 4, .int 4, .ref (u11 0), .ref (u11 1), .ref (u11 2), .ref (u11 3), .int 0, .ref (u11 4), .ref (u11 5), .int 0, .ref (u11 6), .ref (u11 7), .ref (u11 8), .ref (u11 9), .ref (u11 10), .ref (u11 11), .ref (u11 12), .int 0, .ref (u11 13), .ref (u11 14), .ref (u11 15), .ref (u11 16), .ref (u11 17), .ref (u11 18), .int 0, .ref (u11 19), .int 0, .int 0, .int 0, .ref (u11 20), .int 0, .int 0, .ref (u11 21), .int 0, .ref (u11 60), .ref (u11 22), .ref (u11 23), .ref (u11 24), .ref (u11 61), .ref (u11 25), .ref (u11 26), .ref (u11 62), .ref (u11 63), .ref (u11 64), .ref (u11 27), .ref (u11 28), .ref (u11 29), .ref (u11 30), .ref (u11 31), .ref (u11 32), .ref (u11 33), .ref (u11 34), .ref (u11 35), .ref (u11 36), .ref (u11 37), .ref (u11 38), .ref (u11 65), .int 0, .int 0, .int 0, .int 0, .int 0, .long 0, .int 0, .int 0, .int 0, .int 0, .int 0, .int (-1), .int 0, .ref (u11 39), .ref (u11 40), .ref (u11 41), .ref (u11 42), .ref (u11 43), .int 0, .int 0, .ref (u11 44), .ref (u11 45), .ref (u11 46), .ref (u11 47), .ref (u11 48), .ref (u11 49), .ref (u11 50), .ref (u11 51), .int 0, .int 0, .int 0, .int 0, .ref (u11 52), .ref (u11 53), .int 0, .ref (u11 54), .ref (u11 55), .ref (u11 56), .ref (u11 57), .ref (u11 58), .ref (u11 59)])), (u11 6, .inl (K 0, 12, .inl (fun _ => 0))), (u11 7, .inl (K 0, 12, .inl (fun _ => 0))), (u11 8, .inl (K 0, 12, .inl (fun _ => 0))), (u11 9, .inl (K 0, 12, .inl (fun _ => 0))), (u11 10, .inl (K 0, 12, .inl (fun _ => 0))), (u11 11, .inl (K 0, 12, .inl (fun _ => 0))), (u11 12, .inl (K 0, 12, .inl (fun _ => 0)))]) [0, 1, 8, 9, 10, 11, 12, 13, 14, 15, 16, 97, 104, 105, 106, 107, 108, 109, 110] rfl rfl
      refine lv_pc (q := 403) rfl ?_
      refine lv_aload_n hx hb dL_law_403 rfl (lv_at hl 2 rfl) ?_
      refine lv_aload_n hx hb dL_law_404 rfl (lv_at hl 3 rfl) ?_
      refine lv_iload_n hx hb dL_law_405 rfl (lv_at hl 0 rfl) ?_
      refine lv_iconst (v := 1) hx hb dL_law_406 (by decide) ?_
      refine lv_iadd hx hb dL_law_407 ?_
      refine lv_fixi (y := 1) (by decide) ?_
      refine va_sld (i := 1) hx hb hX hbl hbA hS (by show ¬ (_ ∨ _); decide) dL_law_408 ?_
      refine lv_fixi (y := (xs 1)) rfl ?_
      refine lv_pc (q := 409) rfl ?_
      refine lv_aload_n hx hb dL_law_409 rfl (lv_at hl 3 rfl) ?_
      refine lv_iload_n hx hb dL_law_410 rfl (lv_at hl 0 rfl) ?_
      refine lv_iconst (v := 2) hx hb dL_law_411 (by decide) ?_
      refine lv_iadd hx hb dL_law_412 ?_
      refine lv_fixi (y := 2) (by decide) ?_
      refine va_sld (i := 2) hx hb hX hbl hbA hS (by show ¬ (_ ∨ _); decide) dL_law_413 ?_
      refine lv_fixi (y := (xs 2)) rfl ?_
      refine lv_aload_n hx hb dL_law_414 rfl (lv_at hl 3 rfl) ?_
      refine lv_pc (q := 415) rfl ?_
      refine lv_iload_n hx hb dL_law_415 rfl (lv_at hl 0 rfl) ?_
      refine lv_iconst (v := 3) hx hb dL_law_416 (by decide) ?_
      refine lv_iadd hx hb dL_law_417 ?_
      refine lv_fixi (y := 3) (by decide) ?_
      refine va_sld (i := 3) hx hb hX hbl hbA hS (by show ¬ (_ ∨ _); decide) dL_law_418 ?_
      refine lv_fixi (y := (xs 3)) rfl ?_
      refine lv_aload_n hx hb dL_law_419 rfl (lv_at hl 3 rfl) ?_
      refine lv_iload_n hx hb dL_law_420 rfl (lv_at hl 0 rfl) ?_
      refine lv_pc (q := 421) rfl ?_
      refine lv_iconst (v := 4) hx hb dL_law_421 (by decide) ?_
      refine lv_iadd hx hb dL_law_422 ?_
      refine lv_fixi (y := 4) (by decide) ?_
      refine va_sld (i := 4) hx hb hX hbl hbA hS (by show ¬ (_ ∨ _); decide) dL_law_423 ?_
      refine lv_fixi (y := (xs 4)) rfl ?_
      refine lv_aload_n hx hb dL_law_424 rfl (lv_at hl 3 rfl) ?_
      refine lv_iload_n hx hb dL_law_425 rfl (lv_at hl 0 rfl) ?_
      refine lv_iconst (v := 5) hx hb dL_law_426 (by decide) ?_
      refine lv_pc (q := 427) rfl ?_
      refine lv_iadd hx hb dL_law_427 ?_
      refine lv_fixi (y := 5) (by decide) ?_
      refine va_sld (i := 5) hx hb hX hbl hbA hS (by show ¬ (_ ∨ _); decide) dL_law_428 ?_
      refine lv_fixi (y := (xs 5)) rfl ?_
      refine lv_if_eq (tgt := 436) hx hb dL_law_429 (by decide) (fun c143 => ?_) (fun c143 => ?_)
      · refine lv_iconst (v := 0) hx hb dL_law_436 (by decide) ?_
        refine lv_aload_n hx hb dL_law_437 rfl (lv_at hl 3 rfl) ?_
        refine lv_iload_n hx hb dL_law_438 rfl (lv_at hl 0 rfl) ?_
        refine lv_pc (q := 439) rfl ?_
        refine lv_bipush (v := 6) hx hb dL_law_439 (by decide) ?_
        refine lv_iadd hx hb dL_law_441 ?_
        refine lv_fixi (y := 6) (by decide) ?_
        refine va_sld (i := 6) hx hb hX hbl hbA hS (by show ¬ (_ ∨ _); decide) dL_law_442 ?_
        refine lv_fixi (y := (xs 6)) rfl ?_
        refine uVi (As := [.int (xs 1), .int (xs 2), .int (xs 3), .int (xs 4), .int 0, .int (xs 6)]) (rest := []) (wr := [(q9, .inr (12, [.int 0, .int 4, .int 4, .ref (u11 0), .ref (u11 1), .ref (u11 2), .ref (u11 3), .int 0, .ref (u11 4), .ref (u11 5), .int 0, .ref (u11 6), .ref (u11 7), .ref (u11 8), .ref (u11 9), .ref (u11 10), .ref (u11 11), .ref (u11 12), .int 0, .ref (u11 13), .ref (u11 14), .ref (u11 15), .ref (u11 16), .ref (u11 17), .ref (u11 18), .int 0, .ref (u11 19), .int 0, .int 0, .int 0, .ref (u11 20), .int 0, .int 0, .ref (u11 21), .int 0, .ref (u11 60), .ref (u11 22), .ref (u11 23), .ref (u11 24), .ref (u11 61), .ref (u11 25), .ref (u11 26), .ref (u11 62), .ref (u11 63), .ref (u11 64), .ref (u11 27), .ref (u11 28), .ref (u11 29), .ref (u11 30), .ref (u11 31), .ref (u11 32), .ref (u11 33), .ref (u11 34), .ref (u11 35), .ref (u11 36), .ref (u11 37), .ref (u11 38), .ref (u11 65), .int 0, .int 0, .int 0, .int 0, .int 0, .long 0, .int 0, .int 0, .int 0, .int 0, .int 0, .int (-1), .int 0, .ref (u11 39), .ref (u11 40), .ref (u11 41), .ref (u11 42), .ref (u11 43), .int 0, .int 0, .ref (u11 44), .ref (u11 45), .ref (u11 46), .ref (u11 47), .ref (u11 48), .ref (u11 49), .ref (u11 50), .ref (u11 51), .int 0, .int 0, .int 0, .int 0, .ref (u11 52), .ref (u11 53), .int 0, .ref (u11 54), .ref (u11 55), .ref (u11 56), .ref (u11 57), .ref (u11 58), .ref (u11 59)])), (u11 6, .inl (K 0, 12, .inl (fun _ => 0))), (u11 7, .inl (K 0, 12, .inl (fun _ => 0))), (u11 8, .inl (K 0, 12, .inl (fun _ => 0))), (u11 9, .inl (K 0, 12, .inl (fun _ => 0))), (u11 10, .inl (K 0, 12, .inl (fun _ => 0))), (u11 11, .inl (K 0, 12, .inl (fun _ => 0))), (u11 12, .inl (K 0, 12, .inl (fun _ => 0)))]) [(q1, .inr (11, [.ref (u3 0), .ref (u3 7), .ref (u3 16), .ref (u3 17), .ref (u3 24), .ref (u3 27), .ref (u3 30), .ref (u3 33), .ref (u3 62), .ref (u3 77), .ref (u3 50)])), (u3 7, .inr (4, [.ref (u3 0), .ref (u3 8), .ref (u3 9), .ref (u3 10), .ref (u3 11), .ref (u3 12), .ref (u3 13), .ref (u3 14), .ref (u3 15), .int 0])), (u3 0, .inr (9, [.ref (u3 1), .ref (u3 2), .ref (u3 3), .ref (u3 4), .ref (u3 5), .ref (u3 6), .int 4, .int 4, .int 0])), (u3 8, .inl (K 0, 12, .inl (fun _ => 0))), (u3 9, .inl (K 0, 12, .inl (fun _ => 0))), (u3 10, .inl (K 0, 12, .inl (fun _ => 0))), (u3 11, .inl (K 0, 12, .inl (fun _ => 0))), (u3 12, .inl (K 0, 12, .inl (fun _ => 0))), (u3 13, .inl (K 0, 12, .inl (fun _ => 0))), (u3 14, .inl (K 0, 12, .inl (fun _ => 0))), (u3 15, .inl (K 0, 12, .inl (fun _ => 0)))] B hl.1 hP hD hS [0, 2, 1, 3, 4, 5, 6, 7, 8, 9, 10] [11, 12, 13, 14, 15, 16, 17, 18] rfl rfl rfl (kX11_post_51 l D K _ q1 (u3 7) (u3 0) (u3 8) (u3 9) (u3 10) (u3 11) (u3 12) (u3 13) (u3 14) (u3 15) (u3 16) (u3 17) (u3 24) (u3 27) (u3 30) (u3 33) (u3 62) (u3 77) (u3 50) (u3 1) (u3 2) (u3 3) (u3 4) (u3 5) (u3 6) (fun _ => 0) (fun _ => 0) (fun _ => 0) (fun _ => 0) (fun _ => 0) (fun _ => 0) (fun _ => 0) (fun _ => 0) (xs 1) (xs 2) (xs 3) (xs 4) (xs 6)) wd_X11_post mml_L_38 rfl rfl rfl rfl ⟨Nat.le_of_ble_eq_true rfl, Nat.le_of_ble_eq_true rfl⟩ (Nat.le_of_ble_eq_true rfl) ⟨Nat.le_of_ble_eq_true rfl, Nat.le_of_ble_eq_true rfl⟩ dL_law_443 (fun r144 u H locs hw hP hD hS => ?_)
        try dsimp only at hw
        rcases hw with ⟨rfl, w145⟩ | ⟨rfl, ⟨w146, w147, w148, w149, w150, w151, w152, w153, w154⟩⟩
        · have hP : va_P D vwCl [(q9, .inr (12, [.int 0, .int 4, .int 4, .ref (u11 0), .ref (u11 1), .ref (u11 2), .ref (u11 3), .int 0, .ref (u11 4), .ref (u11 5), .int 0, .ref (u11 6), .ref (u11 7), .ref (u11 8), .ref (u11 9), .ref (u11 10), .ref (u11 11), .ref (u11 12), .int 0, .ref (u11 13), .ref (u11 14), .ref (u11 15), .ref (u11 16), .ref (u11 17), .ref (u11 18), .int 0, .ref (u11 19), .int 0, .int 0, .int 0, .ref (u11 20), .int 0, .int 0, .ref (u11 21), .int 0, .ref (u11 60), .ref (u11 22), .ref (u11 23), .ref (u11 24), .ref (u11 61), .ref (u11 25), .ref (u11 26), .ref (u11 62), .ref (u11 63), .ref (u11 64), .ref (u11 27), .ref (u11 28), .ref (u11 29), .ref (u11 30), .ref (u11 31), .ref (u11 32), .ref (u11 33), .ref (u11 34), .ref (u11 35), .ref (u11 36), .ref (u11 37), .ref (u11 38), .ref (u11 65), .int 0, .int 0, .int 0, .int 0, .int 0, .long 0, .int 0, .int 0, .int 0, .int 0, .int 0, .int (-1), .int 0, .ref (u11 39), .ref (u11 40), .ref (u11 41), .ref (u11 42), .ref (u11 43), .int 0, .int 0, .ref (u11 44), .ref (u11 45), .ref (u11 46), .ref (u11 47), .ref (u11 48), .ref (u11 49), .ref (u11 50), .ref (u11 51), .int 0, .int 0, .int 0, .int 0, .ref (u11 52), .ref (u11 53), .int 0, .ref (u11 54), .ref (u11 55), .ref (u11 56), .ref (u11 57), .ref (u11 58), .ref (u11 59)])), (u11 6, .inl (K 0, 12, .inl (fun _ => 0))), (u11 7, .inl (K 0, 12, .inl (fun _ => 0))), (u11 8, .inl (K 0, 12, .inl (fun _ => 0))), (u11 9, .inl (K 0, 12, .inl (fun _ => 0))), (u11 10, .inl (K 0, 12, .inl (fun _ => 0))), (u11 11, .inl (K 0, 12, .inl (fun _ => 0))), (u11 12, .inl (K 0, 12, .inl (fun _ => 0)))] H := hP
          have hD : va_D A [(q9, .inr (12, [.int 0, .int 4, .int 4, .ref (u11 0), .ref (u11 1), .ref (u11 2), .ref (u11 3), .int 0, .ref (u11 4), .ref (u11 5), .int 0, .ref (u11 6), .ref (u11 7), .ref (u11 8), .ref (u11 9), .ref (u11 10), .ref (u11 11), .ref (u11 12), .int 0, .ref (u11 13), .ref (u11 14), .ref (u11 15), .ref (u11 16), .ref (u11 17), .ref (u11 18), .int 0, .ref (u11 19), .int 0, .int 0, .int 0, .ref (u11 20), .int 0, .int 0, .ref (u11 21), .int 0, .ref (u11 60), .ref (u11 22), .ref (u11 23), .ref (u11 24), .ref (u11 61), .ref (u11 25), .ref (u11 26), .ref (u11 62), .ref (u11 63), .ref (u11 64), .ref (u11 27), .ref (u11 28), .ref (u11 29), .ref (u11 30), .ref (u11 31), .ref (u11 32), .ref (u11 33), .ref (u11 34), .ref (u11 35), .ref (u11 36), .ref (u11 37), .ref (u11 38), .ref (u11 65), .int 0, .int 0, .int 0, .int 0, .int 0, .long 0, .int 0, .int 0, .int 0, .int 0, .int 0, .int (-1), .int 0, .ref (u11 39), .ref (u11 40), .ref (u11 41), .ref (u11 42), .ref (u11 43), .int 0, .int 0, .ref (u11 44), .ref (u11 45), .ref (u11 46), .ref (u11 47), .ref (u11 48), .ref (u11 49), .ref (u11 50), .ref (u11 51), .int 0, .int 0, .int 0, .int 0, .ref (u11 52), .ref (u11 53), .int 0, .ref (u11 54), .ref (u11 55), .ref (u11 56), .ref (u11 57), .ref (u11 58), .ref (u11 59)])), (u11 6, .inl (K 0, 12, .inl (fun _ => 0))), (u11 7, .inl (K 0, 12, .inl (fun _ => 0))), (u11 8, .inl (K 0, 12, .inl (fun _ => 0))), (u11 9, .inl (K 0, 12, .inl (fun _ => 0))), (u11 10, .inl (K 0, 12, .inl (fun _ => 0))), (u11 11, .inl (K 0, 12, .inl (fun _ => 0))), (u11 12, .inl (K 0, 12, .inl (fun _ => 0)))] := hD
          refine lv_aload_n hx hb dL_law_446 rfl (lv_at hl 1 rfl) ?_
          refine lv_aload_n hx hb dL_law_447 rfl (lv_at hl 3 rfl) ?_
          refine lv_pc (q := 448) rfl ?_
          refine lv_iload_n hx hb dL_law_448 rfl (lv_at hl 0 rfl) ?_
          refine lv_iconst (v := 1) hx hb dL_law_449 (by decide) ?_
          refine lv_iadd hx hb dL_law_450 ?_
          refine lv_fixi (y := 1) (by decide) ?_
          refine va_sld (i := 1) hx hb hX hbl hbA hS (by show ¬ (_ ∨ _); decide) dL_law_451 ?_
          refine lv_fixi (y := (xs 1)) rfl ?_
          refine lv_aload_n hx hb dL_law_452 rfl (lv_at hl 3 rfl) ?_
          refine lv_iload_n hx hb dL_law_453 rfl (lv_at hl 0 rfl) ?_
          refine lv_pc (q := 454) rfl ?_
          refine lv_iconst (v := 2) hx hb dL_law_454 (by decide) ?_
          refine lv_iadd hx hb dL_law_455 ?_
          refine lv_fixi (y := 2) (by decide) ?_
          refine va_sld (i := 2) hx hb hX hbl hbA hS (by show ¬ (_ ∨ _); decide) dL_law_456 ?_
          refine lv_fixi (y := (xs 2)) rfl ?_
          refine lv_aload_n hx hb dL_law_457 rfl (lv_at hl 3 rfl) ?_
          refine lv_iload_n hx hb dL_law_458 rfl (lv_at hl 0 rfl) ?_
          refine lv_iconst (v := 3) hx hb dL_law_459 (by decide) ?_
          refine lv_pc (q := 460) rfl ?_
          refine lv_iadd hx hb dL_law_460 ?_
          refine lv_fixi (y := 3) (by decide) ?_
          refine va_sld (i := 3) hx hb hX hbl hbA hS (by show ¬ (_ ∨ _); decide) dL_law_461 ?_
          refine lv_fixi (y := (xs 3)) rfl ?_
          refine lv_aload_n hx hb dL_law_462 rfl (lv_at hl 3 rfl) ?_
          refine lv_iload_n hx hb dL_law_463 rfl (lv_at hl 0 rfl) ?_
          refine lv_iconst (v := 4) hx hb dL_law_464 (by decide) ?_
          refine lv_iadd hx hb dL_law_465 ?_
          refine lv_fixi (y := 4) (by decide) ?_
          refine lv_pc (q := 466) rfl ?_
          refine va_sld (i := 4) hx hb hX hbl hbA hS (by show ¬ (_ ∨ _); decide) dL_law_466 ?_
          refine lv_fixi (y := (xs 4)) rfl ?_
          refine lv_aload_n hx hb dL_law_467 rfl (lv_at hl 3 rfl) ?_
          refine lv_iload_n hx hb dL_law_468 rfl (lv_at hl 0 rfl) ?_
          refine lv_iconst (v := 5) hx hb dL_law_469 (by decide) ?_
          refine lv_iadd hx hb dL_law_470 ?_
          refine lv_fixi (y := 5) (by decide) ?_
          refine va_sld (i := 5) hx hb hX hbl hbA hS (by show ¬ (_ ∨ _); decide) dL_law_471 ?_
          refine lv_fixi (y := (xs 5)) rfl ?_
          refine lv_pc (q := 472) rfl ?_
          refine lv_if_eq (tgt := 479) hx hb dL_law_472 (by decide) (fun _ => ?_) (fun h9 => absurd c143 h9)
          refine lv_iconst (v := 0) hx hb dL_law_479 (by decide) ?_
          refine lv_aload_n hx hb dL_law_480 rfl (lv_at hl 3 rfl) ?_
          refine lv_iload_n hx hb dL_law_481 rfl (lv_at hl 0 rfl) ?_
          refine lv_bipush (v := 6) hx hb dL_law_482 (by decide) ?_
          refine lv_iadd hx hb dL_law_484 ?_
          refine lv_fixi (y := 6) (by decide) ?_
          refine lv_pc (q := 485) rfl ?_
          refine va_sld (i := 6) hx hb hX hbl hbA hS (by show ¬ (_ ∨ _); decide) dL_law_485 ?_
          refine lv_fixi (y := (xs 6)) rfl ?_
          refine uVi (As := [.int (xs 1), .int (xs 2), .int (xs 3), .int (xs 4), .int 0, .int (xs 6)]) (rest := [.int (-1)]) (wr := []) [(q9, .inr (12, [.int 0, .int 4, .int 4, .ref (u11 0), .ref (u11 1), .ref (u11 2), .ref (u11 3), .int 0, .ref (u11 4), .ref (u11 5), .int 0, .ref (u11 6), .ref (u11 7), .ref (u11 8), .ref (u11 9), .ref (u11 10), .ref (u11 11), .ref (u11 12), .int 0, .ref (u11 13), .ref (u11 14), .ref (u11 15), .ref (u11 16), .ref (u11 17), .ref (u11 18), .int 0, .ref (u11 19), .int 0, .int 0, .int 0, .ref (u11 20), .int 0, .int 0, .ref (u11 21), .int 0, .ref (u11 60), .ref (u11 22), .ref (u11 23), .ref (u11 24), .ref (u11 61), .ref (u11 25), .ref (u11 26), .ref (u11 62), .ref (u11 63), .ref (u11 64), .ref (u11 27), .ref (u11 28), .ref (u11 29), .ref (u11 30), .ref (u11 31), .ref (u11 32), .ref (u11 33), .ref (u11 34), .ref (u11 35), .ref (u11 36), .ref (u11 37), .ref (u11 38), .ref (u11 65), .int 0, .int 0, .int 0, .int 0, .int 0, .long 0, .int 0, .int 0, .int 0, .int 0, .int 0, .int (-1), .int 0, .ref (u11 39), .ref (u11 40), .ref (u11 41), .ref (u11 42), .ref (u11 43), .int 0, .int 0, .ref (u11 44), .ref (u11 45), .ref (u11 46), .ref (u11 47), .ref (u11 48), .ref (u11 49), .ref (u11 50), .ref (u11 51), .int 0, .int 0, .int 0, .int 0, .ref (u11 52), .ref (u11 53), .int 0, .ref (u11 54), .ref (u11 55), .ref (u11 56), .ref (u11 57), .ref (u11 58), .ref (u11 59)])), (u11 6, .inl (K 0, 12, .inl (fun _ => 0))), (u11 7, .inl (K 0, 12, .inl (fun _ => 0))), (u11 8, .inl (K 0, 12, .inl (fun _ => 0))), (u11 9, .inl (K 0, 12, .inl (fun _ => 0))), (u11 10, .inl (K 0, 12, .inl (fun _ => 0))), (u11 11, .inl (K 0, 12, .inl (fun _ => 0))), (u11 12, .inl (K 0, 12, .inl (fun _ => 0)))] B hl.1 hP hD hS [0, 1, 2, 3, 4, 5, 6, 7] [] rfl rfl rfl (kX12_post_52 l D K _ q9 (u11 6) (u11 7) (u11 8) (u11 9) (u11 10) (u11 11) (u11 12) (u11 0) (u11 1) (u11 2) (u11 3) (u11 4) (u11 5) (u11 13) (u11 14) (u11 15) (u11 16) (u11 17) (u11 18) (u11 19) (u11 20) (u11 21) (u11 60) (u11 22) (u11 23) (u11 24) (u11 61) (u11 25) (u11 26) (u11 62) (u11 63) (u11 64) (u11 27) (u11 28) (u11 29) (u11 30) (u11 31) (u11 32) (u11 33) (u11 34) (u11 35) (u11 36) (u11 37) (u11 38) (u11 65) (u11 39) (u11 40) (u11 41) (u11 42) (u11 43) (u11 44) (u11 45) (u11 46) (u11 47) (u11 48) (u11 49) (u11 50) (u11 51) (u11 52) (u11 53) (u11 54) (u11 55) (u11 56) (u11 57) (u11 58) (u11 59) (fun _ => 0) (fun _ => 0) (fun _ => 0) (fun _ => 0) (fun _ => 0) (fun _ => 0) (fun _ => 0) (xs 1) (xs 2) (xs 3) (xs 4) (xs 6)) wd_X12_post mml_L_42 rfl rfl rfl rfl ⟨Nat.le_of_ble_eq_true rfl, Nat.le_of_ble_eq_true rfl⟩ (Nat.le_of_ble_eq_true rfl) ⟨Nat.le_of_ble_eq_true rfl, Nat.le_of_ble_eq_true rfl⟩ dL_law_486 (fun r155 u H locs hw hP hD hS => ?_)
          try dsimp only at hw
          rcases hw with ⟨rfl, w156⟩ | ⟨rfl, ⟨w157, w158, w159, w160, w161, w162, w163, w164, w165⟩⟩
          · have hP : va_P D vwCl [] H := hP
            have hD : va_D A [] := hD
            refine lv_icmp_eq (tgt := 1474) hx hb dL_law_489 (by decide) (fun _ => ?_) (fun h9 => absurd (by decide) h9)
            refine lv_iinc (v := 7) (lv' := [(3, .int 7), (2, .ref q9), (1, .ref q1), (0, .ref b)]) hx hb dL_law_1474 hl (k := 0) rfl (by decide) (by decide) rfl (fun ls hl => ?_)
            refine lv_goto (tgt := 18) hx hb dL_law_1477 (by decide) ?_
            refine lv_iload_n hx hb dL_law_18 rfl (lv_at hl 0 rfl) ?_
            refine lv_pc (q := 19) rfl ?_
            refine lv_aload_n hx hb dL_law_19 rfl (lv_at hl 3 rfl) ?_
            refine va_slen hx hb hX hbl hbA hS dL_law_20 ?_
            refine lv_fixi (y := 7) (by decide) ?_
            refine lv_bipush (v := 7) hx hb dL_law_21 (by decide) ?_
            refine lv_isub hx hb dL_law_23 ?_
            refine lv_fixi (y := 0) (by decide) ?_
            refine lv_icmp_gt (tgt := 1480) hx hb dL_law_24 (by decide) (fun _ => ?_) (fun h9 => absurd (by decide) h9)
            refine lv_iconst (v := 1) hx hb dL_law_1480 (by decide) ?_
            refine lv_pc (q := 1481) rfl ?_
            refine va_forget (fun q hq => by have h9 := hS.2.2 q hq; rw [hAe] at h9; exact h9) ?_
            refine W.widen (k := 600000) (n := 7302250) (by decide) (by decide) ?_
            exact lw_ret hx hb hr hlocks dL_law_1481
          have hP : va_P D vwCl [] H := hP
          have hD : va_D A [] := hD
          exfalso
          try simp only [fa_lt, fa_le, fa_eq, Int32.reduceToInt] at c143 w145 w157 w158 w159 w160 w161 w162 w163 w164 w165
          omega
        have hP : va_P D vwCl [(q9, .inr (12, [.int 0, .int 4, .int 4, .ref (u11 0), .ref (u11 1), .ref (u11 2), .ref (u11 3), .int 0, .ref (u11 4), .ref (u11 5), .int 0, .ref (u11 6), .ref (u11 7), .ref (u11 8), .ref (u11 9), .ref (u11 10), .ref (u11 11), .ref (u11 12), .int 0, .ref (u11 13), .ref (u11 14), .ref (u11 15), .ref (u11 16), .ref (u11 17), .ref (u11 18), .int 0, .ref (u11 19), .int 0, .int 0, .int 0, .ref (u11 20), .int 0, .int 0, .ref (u11 21), .int 0, .ref (u11 60), .ref (u11 22), .ref (u11 23), .ref (u11 24), .ref (u11 61), .ref (u11 25), .ref (u11 26), .ref (u11 62), .ref (u11 63), .ref (u11 64), .ref (u11 27), .ref (u11 28), .ref (u11 29), .ref (u11 30), .ref (u11 31), .ref (u11 32), .ref (u11 33), .ref (u11 34), .ref (u11 35), .ref (u11 36), .ref (u11 37), .ref (u11 38), .ref (u11 65), .int 0, .int 0, .int 0, .int 0, .int 0, .long 0, .int 0, .int 0, .int 0, .int 0, .int 0, .int (-1), .int 0, .ref (u11 39), .ref (u11 40), .ref (u11 41), .ref (u11 42), .ref (u11 43), .int 0, .int 0, .ref (u11 44), .ref (u11 45), .ref (u11 46), .ref (u11 47), .ref (u11 48), .ref (u11 49), .ref (u11 50), .ref (u11 51), .int 0, .int 0, .int 0, .int 0, .ref (u11 52), .ref (u11 53), .int 0, .ref (u11 54), .ref (u11 55), .ref (u11 56), .ref (u11 57), .ref (u11 58), .ref (u11 59)])), (u11 6, .inl (K 0, 12, .inl (fun _ => 0))), (u11 7, .inl (K 0, 12, .inl (fun _ => 0))), (u11 8, .inl (K 0, 12, .inl (fun _ => 0))), (u11 9, .inl (K 0, 12, .inl (fun _ => 0))), (u11 10, .inl (K 0, 12, .inl (fun _ => 0))), (u11 11, .inl (K 0, 12, .inl (fun _ => 0))), (u11 12, .inl (K 0, 12, .inl (fun _ => 0)))] H := hP
        have hD : va_D A [(q9, .inr (12, [.int 0, .int 4, .int 4, .ref (u11 0), .ref (u11 1), .ref (u11 2), .ref (u11 3), .int 0, .ref (u11 4), .ref (u11 5), .int 0, .ref (u11 6), .ref (u11 7), .ref (u11 8), .ref (u11 9), .ref (u11 10), .ref (u11 11), .ref (u11 12), .int 0, .ref (u11 13), .ref (u11 14), .ref (u11 15), .ref (u11 16), .ref (u11 17), .ref (u11 18), .int 0, .ref (u11 19), .int 0, .int 0, .int 0, .ref (u11 20), .int 0, .int 0, .ref (u11 21), .int 0, .ref (u11 60), .ref (u11 22), .ref (u11 23), .ref (u11 24), .ref (u11 61), .ref (u11 25), .ref (u11 26), .ref (u11 62), .ref (u11 63), .ref (u11 64), .ref (u11 27), .ref (u11 28), .ref (u11 29), .ref (u11 30), .ref (u11 31), .ref (u11 32), .ref (u11 33), .ref (u11 34), .ref (u11 35), .ref (u11 36), .ref (u11 37), .ref (u11 38), .ref (u11 65), .int 0, .int 0, .int 0, .int 0, .int 0, .long 0, .int 0, .int 0, .int 0, .int 0, .int 0, .int (-1), .int 0, .ref (u11 39), .ref (u11 40), .ref (u11 41), .ref (u11 42), .ref (u11 43), .int 0, .int 0, .ref (u11 44), .ref (u11 45), .ref (u11 46), .ref (u11 47), .ref (u11 48), .ref (u11 49), .ref (u11 50), .ref (u11 51), .int 0, .int 0, .int 0, .int 0, .ref (u11 52), .ref (u11 53), .int 0, .ref (u11 54), .ref (u11 55), .ref (u11 56), .ref (u11 57), .ref (u11 58), .ref (u11 59)])), (u11 6, .inl (K 0, 12, .inl (fun _ => 0))), (u11 7, .inl (K 0, 12, .inl (fun _ => 0))), (u11 8, .inl (K 0, 12, .inl (fun _ => 0))), (u11 9, .inl (K 0, 12, .inl (fun _ => 0))), (u11 10, .inl (K 0, 12, .inl (fun _ => 0))), (u11 11, .inl (K 0, 12, .inl (fun _ => 0))), (u11 12, .inl (K 0, 12, .inl (fun _ => 0)))] := hD
        refine lv_aload_n hx hb dL_law_446 rfl (lv_at hl 1 rfl) ?_
        refine lv_aload_n hx hb dL_law_447 rfl (lv_at hl 3 rfl) ?_
        refine lv_pc (q := 448) rfl ?_
        refine lv_iload_n hx hb dL_law_448 rfl (lv_at hl 0 rfl) ?_
        refine lv_iconst (v := 1) hx hb dL_law_449 (by decide) ?_
        refine lv_iadd hx hb dL_law_450 ?_
        refine lv_fixi (y := 1) (by decide) ?_
        refine va_sld (i := 1) hx hb hX hbl hbA hS (by show ¬ (_ ∨ _); decide) dL_law_451 ?_
        refine lv_fixi (y := (xs 1)) rfl ?_
        refine lv_aload_n hx hb dL_law_452 rfl (lv_at hl 3 rfl) ?_
        refine lv_iload_n hx hb dL_law_453 rfl (lv_at hl 0 rfl) ?_
        refine lv_pc (q := 454) rfl ?_
        refine lv_iconst (v := 2) hx hb dL_law_454 (by decide) ?_
        refine lv_iadd hx hb dL_law_455 ?_
        refine lv_fixi (y := 2) (by decide) ?_
        refine va_sld (i := 2) hx hb hX hbl hbA hS (by show ¬ (_ ∨ _); decide) dL_law_456 ?_
        refine lv_fixi (y := (xs 2)) rfl ?_
        refine lv_aload_n hx hb dL_law_457 rfl (lv_at hl 3 rfl) ?_
        refine lv_iload_n hx hb dL_law_458 rfl (lv_at hl 0 rfl) ?_
        refine lv_iconst (v := 3) hx hb dL_law_459 (by decide) ?_
        refine lv_pc (q := 460) rfl ?_
        refine lv_iadd hx hb dL_law_460 ?_
        refine lv_fixi (y := 3) (by decide) ?_
        refine va_sld (i := 3) hx hb hX hbl hbA hS (by show ¬ (_ ∨ _); decide) dL_law_461 ?_
        refine lv_fixi (y := (xs 3)) rfl ?_
        refine lv_aload_n hx hb dL_law_462 rfl (lv_at hl 3 rfl) ?_
        refine lv_iload_n hx hb dL_law_463 rfl (lv_at hl 0 rfl) ?_
        refine lv_iconst (v := 4) hx hb dL_law_464 (by decide) ?_
        refine lv_iadd hx hb dL_law_465 ?_
        refine lv_fixi (y := 4) (by decide) ?_
        refine lv_pc (q := 466) rfl ?_
        refine va_sld (i := 4) hx hb hX hbl hbA hS (by show ¬ (_ ∨ _); decide) dL_law_466 ?_
        refine lv_fixi (y := (xs 4)) rfl ?_
        refine lv_aload_n hx hb dL_law_467 rfl (lv_at hl 3 rfl) ?_
        refine lv_iload_n hx hb dL_law_468 rfl (lv_at hl 0 rfl) ?_
        refine lv_iconst (v := 5) hx hb dL_law_469 (by decide) ?_
        refine lv_iadd hx hb dL_law_470 ?_
        refine lv_fixi (y := 5) (by decide) ?_
        refine va_sld (i := 5) hx hb hX hbl hbA hS (by show ¬ (_ ∨ _); decide) dL_law_471 ?_
        refine lv_fixi (y := (xs 5)) rfl ?_
        refine lv_pc (q := 472) rfl ?_
        refine lv_if_eq (tgt := 479) hx hb dL_law_472 (by decide) (fun _ => ?_) (fun h9 => absurd c143 h9)
        refine lv_iconst (v := 0) hx hb dL_law_479 (by decide) ?_
        refine lv_aload_n hx hb dL_law_480 rfl (lv_at hl 3 rfl) ?_
        refine lv_iload_n hx hb dL_law_481 rfl (lv_at hl 0 rfl) ?_
        refine lv_bipush (v := 6) hx hb dL_law_482 (by decide) ?_
        refine lv_iadd hx hb dL_law_484 ?_
        refine lv_fixi (y := 6) (by decide) ?_
        refine lv_pc (q := 485) rfl ?_
        refine va_sld (i := 6) hx hb hX hbl hbA hS (by show ¬ (_ ∨ _); decide) dL_law_485 ?_
        refine lv_fixi (y := (xs 6)) rfl ?_
        refine uVi (As := [.int (xs 1), .int (xs 2), .int (xs 3), .int (xs 4), .int 0, .int (xs 6)]) (rest := [.int 0]) (wr := []) [(q9, .inr (12, [.int 0, .int 4, .int 4, .ref (u11 0), .ref (u11 1), .ref (u11 2), .ref (u11 3), .int 0, .ref (u11 4), .ref (u11 5), .int 0, .ref (u11 6), .ref (u11 7), .ref (u11 8), .ref (u11 9), .ref (u11 10), .ref (u11 11), .ref (u11 12), .int 0, .ref (u11 13), .ref (u11 14), .ref (u11 15), .ref (u11 16), .ref (u11 17), .ref (u11 18), .int 0, .ref (u11 19), .int 0, .int 0, .int 0, .ref (u11 20), .int 0, .int 0, .ref (u11 21), .int 0, .ref (u11 60), .ref (u11 22), .ref (u11 23), .ref (u11 24), .ref (u11 61), .ref (u11 25), .ref (u11 26), .ref (u11 62), .ref (u11 63), .ref (u11 64), .ref (u11 27), .ref (u11 28), .ref (u11 29), .ref (u11 30), .ref (u11 31), .ref (u11 32), .ref (u11 33), .ref (u11 34), .ref (u11 35), .ref (u11 36), .ref (u11 37), .ref (u11 38), .ref (u11 65), .int 0, .int 0, .int 0, .int 0, .int 0, .long 0, .int 0, .int 0, .int 0, .int 0, .int 0, .int (-1), .int 0, .ref (u11 39), .ref (u11 40), .ref (u11 41), .ref (u11 42), .ref (u11 43), .int 0, .int 0, .ref (u11 44), .ref (u11 45), .ref (u11 46), .ref (u11 47), .ref (u11 48), .ref (u11 49), .ref (u11 50), .ref (u11 51), .int 0, .int 0, .int 0, .int 0, .ref (u11 52), .ref (u11 53), .int 0, .ref (u11 54), .ref (u11 55), .ref (u11 56), .ref (u11 57), .ref (u11 58), .ref (u11 59)])), (u11 6, .inl (K 0, 12, .inl (fun _ => 0))), (u11 7, .inl (K 0, 12, .inl (fun _ => 0))), (u11 8, .inl (K 0, 12, .inl (fun _ => 0))), (u11 9, .inl (K 0, 12, .inl (fun _ => 0))), (u11 10, .inl (K 0, 12, .inl (fun _ => 0))), (u11 11, .inl (K 0, 12, .inl (fun _ => 0))), (u11 12, .inl (K 0, 12, .inl (fun _ => 0)))] B hl.1 hP hD hS [0, 1, 2, 3, 4, 5, 6, 7] [] rfl rfl rfl (kX12_post_52 l D K _ q9 (u11 6) (u11 7) (u11 8) (u11 9) (u11 10) (u11 11) (u11 12) (u11 0) (u11 1) (u11 2) (u11 3) (u11 4) (u11 5) (u11 13) (u11 14) (u11 15) (u11 16) (u11 17) (u11 18) (u11 19) (u11 20) (u11 21) (u11 60) (u11 22) (u11 23) (u11 24) (u11 61) (u11 25) (u11 26) (u11 62) (u11 63) (u11 64) (u11 27) (u11 28) (u11 29) (u11 30) (u11 31) (u11 32) (u11 33) (u11 34) (u11 35) (u11 36) (u11 37) (u11 38) (u11 65) (u11 39) (u11 40) (u11 41) (u11 42) (u11 43) (u11 44) (u11 45) (u11 46) (u11 47) (u11 48) (u11 49) (u11 50) (u11 51) (u11 52) (u11 53) (u11 54) (u11 55) (u11 56) (u11 57) (u11 58) (u11 59) (fun _ => 0) (fun _ => 0) (fun _ => 0) (fun _ => 0) (fun _ => 0) (fun _ => 0) (fun _ => 0) (xs 1) (xs 2) (xs 3) (xs 4) (xs 6)) wd_X12_post mml_L_42 rfl rfl rfl rfl ⟨Nat.le_of_ble_eq_true rfl, Nat.le_of_ble_eq_true rfl⟩ (Nat.le_of_ble_eq_true rfl) ⟨Nat.le_of_ble_eq_true rfl, Nat.le_of_ble_eq_true rfl⟩ dL_law_486 (fun r166 u H locs hw hP hD hS => ?_)
        try dsimp only at hw
        rcases hw with ⟨rfl, w167⟩ | ⟨rfl, ⟨w168, w169, w170, w171, w172, w173, w174, w175, w176⟩⟩
        · have hP : va_P D vwCl [] H := hP
          have hD : va_D A [] := hD
          exfalso
          try simp only [fa_lt, fa_le, fa_eq, Int32.reduceToInt] at c143 w146 w147 w148 w149 w150 w151 w152 w153 w154 w167
          omega
        have hP : va_P D vwCl [] H := hP
        have hD : va_D A [] := hD
        refine lv_icmp_eq (tgt := 1474) hx hb dL_law_489 (by decide) (fun _ => ?_) (fun h9 => absurd (by decide) h9)
        refine lv_iinc (v := 7) (lv' := [(3, .int 7), (2, .ref q9), (1, .ref q1), (0, .ref b)]) hx hb dL_law_1474 hl (k := 0) rfl (by decide) (by decide) rfl (fun ls hl => ?_)
        refine lv_goto (tgt := 18) hx hb dL_law_1477 (by decide) ?_
        refine lv_iload_n hx hb dL_law_18 rfl (lv_at hl 0 rfl) ?_
        refine lv_pc (q := 19) rfl ?_
        refine lv_aload_n hx hb dL_law_19 rfl (lv_at hl 3 rfl) ?_
        refine va_slen hx hb hX hbl hbA hS dL_law_20 ?_
        refine lv_fixi (y := 7) (by decide) ?_
        refine lv_bipush (v := 7) hx hb dL_law_21 (by decide) ?_
        refine lv_isub hx hb dL_law_23 ?_
        refine lv_fixi (y := 0) (by decide) ?_
        refine lv_icmp_gt (tgt := 1480) hx hb dL_law_24 (by decide) (fun _ => ?_) (fun h9 => absurd (by decide) h9)
        refine lv_iconst (v := 1) hx hb dL_law_1480 (by decide) ?_
        refine lv_pc (q := 1481) rfl ?_
        refine va_forget (fun q hq => by have h9 := hS.2.2 q hq; rw [hAe] at h9; exact h9) ?_
        refine W.widen (k := 600000) (n := 7302250) (by decide) (by decide) ?_
        exact lw_ret hx hb hr hlocks dL_law_1481
      refine lv_iconst (v := 1) hx hb dL_law_432 (by decide) ?_
      refine lv_goto (tgt := 437) hx hb dL_law_433 (by decide) ?_
      refine lv_aload_n hx hb dL_law_437 rfl (lv_at hl 3 rfl) ?_
      refine lv_pc (q := 438) rfl ?_
      refine lv_iload_n hx hb dL_law_438 rfl (lv_at hl 0 rfl) ?_
      refine lv_bipush (v := 6) hx hb dL_law_439 (by decide) ?_
      refine lv_iadd hx hb dL_law_441 ?_
      refine lv_fixi (y := 6) (by decide) ?_
      refine va_sld (i := 6) hx hb hX hbl hbA hS (by show ¬ (_ ∨ _); decide) dL_law_442 ?_
      refine lv_fixi (y := (xs 6)) rfl ?_
      refine uVi (As := [.int (xs 1), .int (xs 2), .int (xs 3), .int (xs 4), .int 1, .int (xs 6)]) (rest := []) (wr := [(q9, .inr (12, [.int 0, .int 4, .int 4, .ref (u11 0), .ref (u11 1), .ref (u11 2), .ref (u11 3), .int 0, .ref (u11 4), .ref (u11 5), .int 0, .ref (u11 6), .ref (u11 7), .ref (u11 8), .ref (u11 9), .ref (u11 10), .ref (u11 11), .ref (u11 12), .int 0, .ref (u11 13), .ref (u11 14), .ref (u11 15), .ref (u11 16), .ref (u11 17), .ref (u11 18), .int 0, .ref (u11 19), .int 0, .int 0, .int 0, .ref (u11 20), .int 0, .int 0, .ref (u11 21), .int 0, .ref (u11 60), .ref (u11 22), .ref (u11 23), .ref (u11 24), .ref (u11 61), .ref (u11 25), .ref (u11 26), .ref (u11 62), .ref (u11 63), .ref (u11 64), .ref (u11 27), .ref (u11 28), .ref (u11 29), .ref (u11 30), .ref (u11 31), .ref (u11 32), .ref (u11 33), .ref (u11 34), .ref (u11 35), .ref (u11 36), .ref (u11 37), .ref (u11 38), .ref (u11 65), .int 0, .int 0, .int 0, .int 0, .int 0, .long 0, .int 0, .int 0, .int 0, .int 0, .int 0, .int (-1), .int 0, .ref (u11 39), .ref (u11 40), .ref (u11 41), .ref (u11 42), .ref (u11 43), .int 0, .int 0, .ref (u11 44), .ref (u11 45), .ref (u11 46), .ref (u11 47), .ref (u11 48), .ref (u11 49), .ref (u11 50), .ref (u11 51), .int 0, .int 0, .int 0, .int 0, .ref (u11 52), .ref (u11 53), .int 0, .ref (u11 54), .ref (u11 55), .ref (u11 56), .ref (u11 57), .ref (u11 58), .ref (u11 59)])), (u11 6, .inl (K 0, 12, .inl (fun _ => 0))), (u11 7, .inl (K 0, 12, .inl (fun _ => 0))), (u11 8, .inl (K 0, 12, .inl (fun _ => 0))), (u11 9, .inl (K 0, 12, .inl (fun _ => 0))), (u11 10, .inl (K 0, 12, .inl (fun _ => 0))), (u11 11, .inl (K 0, 12, .inl (fun _ => 0))), (u11 12, .inl (K 0, 12, .inl (fun _ => 0)))]) [(q1, .inr (11, [.ref (u3 0), .ref (u3 7), .ref (u3 16), .ref (u3 17), .ref (u3 24), .ref (u3 27), .ref (u3 30), .ref (u3 33), .ref (u3 62), .ref (u3 77), .ref (u3 50)])), (u3 7, .inr (4, [.ref (u3 0), .ref (u3 8), .ref (u3 9), .ref (u3 10), .ref (u3 11), .ref (u3 12), .ref (u3 13), .ref (u3 14), .ref (u3 15), .int 0])), (u3 0, .inr (9, [.ref (u3 1), .ref (u3 2), .ref (u3 3), .ref (u3 4), .ref (u3 5), .ref (u3 6), .int 4, .int 4, .int 0])), (u3 8, .inl (K 0, 12, .inl (fun _ => 0))), (u3 9, .inl (K 0, 12, .inl (fun _ => 0))), (u3 10, .inl (K 0, 12, .inl (fun _ => 0))), (u3 11, .inl (K 0, 12, .inl (fun _ => 0))), (u3 12, .inl (K 0, 12, .inl (fun _ => 0))), (u3 13, .inl (K 0, 12, .inl (fun _ => 0))), (u3 14, .inl (K 0, 12, .inl (fun _ => 0))), (u3 15, .inl (K 0, 12, .inl (fun _ => 0)))] B hl.1 hP hD hS [0, 2, 1, 3, 4, 5, 6, 7, 8, 9, 10] [11, 12, 13, 14, 15, 16, 17, 18] rfl rfl rfl (kX11_post_54 l D K _ q1 (u3 7) (u3 0) (u3 8) (u3 9) (u3 10) (u3 11) (u3 12) (u3 13) (u3 14) (u3 15) (u3 16) (u3 17) (u3 24) (u3 27) (u3 30) (u3 33) (u3 62) (u3 77) (u3 50) (u3 1) (u3 2) (u3 3) (u3 4) (u3 5) (u3 6) (fun _ => 0) (fun _ => 0) (fun _ => 0) (fun _ => 0) (fun _ => 0) (fun _ => 0) (fun _ => 0) (fun _ => 0) (xs 1) (xs 2) (xs 3) (xs 4) (xs 6)) wd_X11_post mml_L_38 rfl rfl rfl rfl ⟨Nat.le_of_ble_eq_true rfl, Nat.le_of_ble_eq_true rfl⟩ (Nat.le_of_ble_eq_true rfl) ⟨Nat.le_of_ble_eq_true rfl, Nat.le_of_ble_eq_true rfl⟩ dL_law_443 (fun r177 u H locs hw hP hD hS => ?_)
      try dsimp only at hw
      rcases hw with ⟨rfl, w178⟩ | ⟨rfl, ⟨w179, w180, w181, w182, w183, w184, w185, w186, w187⟩⟩
      · have hP : va_P D vwCl [(q9, .inr (12, [.int 0, .int 4, .int 4, .ref (u11 0), .ref (u11 1), .ref (u11 2), .ref (u11 3), .int 0, .ref (u11 4), .ref (u11 5), .int 0, .ref (u11 6), .ref (u11 7), .ref (u11 8), .ref (u11 9), .ref (u11 10), .ref (u11 11), .ref (u11 12), .int 0, .ref (u11 13), .ref (u11 14), .ref (u11 15), .ref (u11 16), .ref (u11 17), .ref (u11 18), .int 0, .ref (u11 19), .int 0, .int 0, .int 0, .ref (u11 20), .int 0, .int 0, .ref (u11 21), .int 0, .ref (u11 60), .ref (u11 22), .ref (u11 23), .ref (u11 24), .ref (u11 61), .ref (u11 25), .ref (u11 26), .ref (u11 62), .ref (u11 63), .ref (u11 64), .ref (u11 27), .ref (u11 28), .ref (u11 29), .ref (u11 30), .ref (u11 31), .ref (u11 32), .ref (u11 33), .ref (u11 34), .ref (u11 35), .ref (u11 36), .ref (u11 37), .ref (u11 38), .ref (u11 65), .int 0, .int 0, .int 0, .int 0, .int 0, .long 0, .int 0, .int 0, .int 0, .int 0, .int 0, .int (-1), .int 0, .ref (u11 39), .ref (u11 40), .ref (u11 41), .ref (u11 42), .ref (u11 43), .int 0, .int 0, .ref (u11 44), .ref (u11 45), .ref (u11 46), .ref (u11 47), .ref (u11 48), .ref (u11 49), .ref (u11 50), .ref (u11 51), .int 0, .int 0, .int 0, .int 0, .ref (u11 52), .ref (u11 53), .int 0, .ref (u11 54), .ref (u11 55), .ref (u11 56), .ref (u11 57), .ref (u11 58), .ref (u11 59)])), (u11 6, .inl (K 0, 12, .inl (fun _ => 0))), (u11 7, .inl (K 0, 12, .inl (fun _ => 0))), (u11 8, .inl (K 0, 12, .inl (fun _ => 0))), (u11 9, .inl (K 0, 12, .inl (fun _ => 0))), (u11 10, .inl (K 0, 12, .inl (fun _ => 0))), (u11 11, .inl (K 0, 12, .inl (fun _ => 0))), (u11 12, .inl (K 0, 12, .inl (fun _ => 0)))] H := hP
        have hD : va_D A [(q9, .inr (12, [.int 0, .int 4, .int 4, .ref (u11 0), .ref (u11 1), .ref (u11 2), .ref (u11 3), .int 0, .ref (u11 4), .ref (u11 5), .int 0, .ref (u11 6), .ref (u11 7), .ref (u11 8), .ref (u11 9), .ref (u11 10), .ref (u11 11), .ref (u11 12), .int 0, .ref (u11 13), .ref (u11 14), .ref (u11 15), .ref (u11 16), .ref (u11 17), .ref (u11 18), .int 0, .ref (u11 19), .int 0, .int 0, .int 0, .ref (u11 20), .int 0, .int 0, .ref (u11 21), .int 0, .ref (u11 60), .ref (u11 22), .ref (u11 23), .ref (u11 24), .ref (u11 61), .ref (u11 25), .ref (u11 26), .ref (u11 62), .ref (u11 63), .ref (u11 64), .ref (u11 27), .ref (u11 28), .ref (u11 29), .ref (u11 30), .ref (u11 31), .ref (u11 32), .ref (u11 33), .ref (u11 34), .ref (u11 35), .ref (u11 36), .ref (u11 37), .ref (u11 38), .ref (u11 65), .int 0, .int 0, .int 0, .int 0, .int 0, .long 0, .int 0, .int 0, .int 0, .int 0, .int 0, .int (-1), .int 0, .ref (u11 39), .ref (u11 40), .ref (u11 41), .ref (u11 42), .ref (u11 43), .int 0, .int 0, .ref (u11 44), .ref (u11 45), .ref (u11 46), .ref (u11 47), .ref (u11 48), .ref (u11 49), .ref (u11 50), .ref (u11 51), .int 0, .int 0, .int 0, .int 0, .ref (u11 52), .ref (u11 53), .int 0, .ref (u11 54), .ref (u11 55), .ref (u11 56), .ref (u11 57), .ref (u11 58), .ref (u11 59)])), (u11 6, .inl (K 0, 12, .inl (fun _ => 0))), (u11 7, .inl (K 0, 12, .inl (fun _ => 0))), (u11 8, .inl (K 0, 12, .inl (fun _ => 0))), (u11 9, .inl (K 0, 12, .inl (fun _ => 0))), (u11 10, .inl (K 0, 12, .inl (fun _ => 0))), (u11 11, .inl (K 0, 12, .inl (fun _ => 0))), (u11 12, .inl (K 0, 12, .inl (fun _ => 0)))] := hD
        refine lv_aload_n hx hb dL_law_446 rfl (lv_at hl 1 rfl) ?_
        refine lv_pc (q := 447) rfl ?_
        refine lv_aload_n hx hb dL_law_447 rfl (lv_at hl 3 rfl) ?_
        refine lv_iload_n hx hb dL_law_448 rfl (lv_at hl 0 rfl) ?_
        refine lv_iconst (v := 1) hx hb dL_law_449 (by decide) ?_
        refine lv_iadd hx hb dL_law_450 ?_
        refine lv_fixi (y := 1) (by decide) ?_
        refine va_sld (i := 1) hx hb hX hbl hbA hS (by show ¬ (_ ∨ _); decide) dL_law_451 ?_
        refine lv_fixi (y := (xs 1)) rfl ?_
        refine lv_aload_n hx hb dL_law_452 rfl (lv_at hl 3 rfl) ?_
        refine lv_pc (q := 453) rfl ?_
        refine lv_iload_n hx hb dL_law_453 rfl (lv_at hl 0 rfl) ?_
        refine lv_iconst (v := 2) hx hb dL_law_454 (by decide) ?_
        refine lv_iadd hx hb dL_law_455 ?_
        refine lv_fixi (y := 2) (by decide) ?_
        refine va_sld (i := 2) hx hb hX hbl hbA hS (by show ¬ (_ ∨ _); decide) dL_law_456 ?_
        refine lv_fixi (y := (xs 2)) rfl ?_
        refine lv_aload_n hx hb dL_law_457 rfl (lv_at hl 3 rfl) ?_
        refine lv_iload_n hx hb dL_law_458 rfl (lv_at hl 0 rfl) ?_
        refine lv_pc (q := 459) rfl ?_
        refine lv_iconst (v := 3) hx hb dL_law_459 (by decide) ?_
        refine lv_iadd hx hb dL_law_460 ?_
        refine lv_fixi (y := 3) (by decide) ?_
        refine va_sld (i := 3) hx hb hX hbl hbA hS (by show ¬ (_ ∨ _); decide) dL_law_461 ?_
        refine lv_fixi (y := (xs 3)) rfl ?_
        refine lv_aload_n hx hb dL_law_462 rfl (lv_at hl 3 rfl) ?_
        refine lv_iload_n hx hb dL_law_463 rfl (lv_at hl 0 rfl) ?_
        refine lv_iconst (v := 4) hx hb dL_law_464 (by decide) ?_
        refine lv_pc (q := 465) rfl ?_
        refine lv_iadd hx hb dL_law_465 ?_
        refine lv_fixi (y := 4) (by decide) ?_
        refine va_sld (i := 4) hx hb hX hbl hbA hS (by show ¬ (_ ∨ _); decide) dL_law_466 ?_
        refine lv_fixi (y := (xs 4)) rfl ?_
        refine lv_aload_n hx hb dL_law_467 rfl (lv_at hl 3 rfl) ?_
        refine lv_iload_n hx hb dL_law_468 rfl (lv_at hl 0 rfl) ?_
        refine lv_iconst (v := 5) hx hb dL_law_469 (by decide) ?_
        refine lv_iadd hx hb dL_law_470 ?_
        refine lv_fixi (y := 5) (by decide) ?_
        refine lv_pc (q := 471) rfl ?_
        refine va_sld (i := 5) hx hb hX hbl hbA hS (by show ¬ (_ ∨ _); decide) dL_law_471 ?_
        refine lv_fixi (y := (xs 5)) rfl ?_
        refine lv_if_eq (tgt := 479) hx hb dL_law_472 (by decide) (fun h9 => absurd h9 c143) (fun _ => ?_)
        refine lv_iconst (v := 1) hx hb dL_law_475 (by decide) ?_
        refine lv_goto (tgt := 480) hx hb dL_law_476 (by decide) ?_
        refine lv_aload_n hx hb dL_law_480 rfl (lv_at hl 3 rfl) ?_
        refine lv_iload_n hx hb dL_law_481 rfl (lv_at hl 0 rfl) ?_
        refine lv_pc (q := 482) rfl ?_
        refine lv_bipush (v := 6) hx hb dL_law_482 (by decide) ?_
        refine lv_iadd hx hb dL_law_484 ?_
        refine lv_fixi (y := 6) (by decide) ?_
        refine va_sld (i := 6) hx hb hX hbl hbA hS (by show ¬ (_ ∨ _); decide) dL_law_485 ?_
        refine lv_fixi (y := (xs 6)) rfl ?_
        refine uVi (As := [.int (xs 1), .int (xs 2), .int (xs 3), .int (xs 4), .int 1, .int (xs 6)]) (rest := [.int (-1)]) (wr := []) [(q9, .inr (12, [.int 0, .int 4, .int 4, .ref (u11 0), .ref (u11 1), .ref (u11 2), .ref (u11 3), .int 0, .ref (u11 4), .ref (u11 5), .int 0, .ref (u11 6), .ref (u11 7), .ref (u11 8), .ref (u11 9), .ref (u11 10), .ref (u11 11), .ref (u11 12), .int 0, .ref (u11 13), .ref (u11 14), .ref (u11 15), .ref (u11 16), .ref (u11 17), .ref (u11 18), .int 0, .ref (u11 19), .int 0, .int 0, .int 0, .ref (u11 20), .int 0, .int 0, .ref (u11 21), .int 0, .ref (u11 60), .ref (u11 22), .ref (u11 23), .ref (u11 24), .ref (u11 61), .ref (u11 25), .ref (u11 26), .ref (u11 62), .ref (u11 63), .ref (u11 64), .ref (u11 27), .ref (u11 28), .ref (u11 29), .ref (u11 30), .ref (u11 31), .ref (u11 32), .ref (u11 33), .ref (u11 34), .ref (u11 35), .ref (u11 36), .ref (u11 37), .ref (u11 38), .ref (u11 65), .int 0, .int 0, .int 0, .int 0, .int 0, .long 0, .int 0, .int 0, .int 0, .int 0, .int 0, .int (-1), .int 0, .ref (u11 39), .ref (u11 40), .ref (u11 41), .ref (u11 42), .ref (u11 43), .int 0, .int 0, .ref (u11 44), .ref (u11 45), .ref (u11 46), .ref (u11 47), .ref (u11 48), .ref (u11 49), .ref (u11 50), .ref (u11 51), .int 0, .int 0, .int 0, .int 0, .ref (u11 52), .ref (u11 53), .int 0, .ref (u11 54), .ref (u11 55), .ref (u11 56), .ref (u11 57), .ref (u11 58), .ref (u11 59)])), (u11 6, .inl (K 0, 12, .inl (fun _ => 0))), (u11 7, .inl (K 0, 12, .inl (fun _ => 0))), (u11 8, .inl (K 0, 12, .inl (fun _ => 0))), (u11 9, .inl (K 0, 12, .inl (fun _ => 0))), (u11 10, .inl (K 0, 12, .inl (fun _ => 0))), (u11 11, .inl (K 0, 12, .inl (fun _ => 0))), (u11 12, .inl (K 0, 12, .inl (fun _ => 0)))] B hl.1 hP hD hS [0, 1, 2, 3, 4, 5, 6, 7] [] rfl rfl rfl (kX12_post_55 l D K _ q9 (u11 6) (u11 7) (u11 8) (u11 9) (u11 10) (u11 11) (u11 12) (u11 0) (u11 1) (u11 2) (u11 3) (u11 4) (u11 5) (u11 13) (u11 14) (u11 15) (u11 16) (u11 17) (u11 18) (u11 19) (u11 20) (u11 21) (u11 60) (u11 22) (u11 23) (u11 24) (u11 61) (u11 25) (u11 26) (u11 62) (u11 63) (u11 64) (u11 27) (u11 28) (u11 29) (u11 30) (u11 31) (u11 32) (u11 33) (u11 34) (u11 35) (u11 36) (u11 37) (u11 38) (u11 65) (u11 39) (u11 40) (u11 41) (u11 42) (u11 43) (u11 44) (u11 45) (u11 46) (u11 47) (u11 48) (u11 49) (u11 50) (u11 51) (u11 52) (u11 53) (u11 54) (u11 55) (u11 56) (u11 57) (u11 58) (u11 59) (fun _ => 0) (fun _ => 0) (fun _ => 0) (fun _ => 0) (fun _ => 0) (fun _ => 0) (fun _ => 0) (xs 1) (xs 2) (xs 3) (xs 4) (xs 6)) wd_X12_post mml_L_42 rfl rfl rfl rfl ⟨Nat.le_of_ble_eq_true rfl, Nat.le_of_ble_eq_true rfl⟩ (Nat.le_of_ble_eq_true rfl) ⟨Nat.le_of_ble_eq_true rfl, Nat.le_of_ble_eq_true rfl⟩ dL_law_486 (fun r188 u H locs hw hP hD hS => ?_)
        try dsimp only at hw
        rcases hw with ⟨rfl, w189⟩ | ⟨rfl, ⟨w190, w191, w192, w193, w194, w195, w196, w197, w198⟩⟩
        · have hP : va_P D vwCl [] H := hP
          have hD : va_D A [] := hD
          refine lv_icmp_eq (tgt := 1474) hx hb dL_law_489 (by decide) (fun _ => ?_) (fun h9 => absurd (by decide) h9)
          refine lv_iinc (v := 7) (lv' := [(3, .int 7), (2, .ref q9), (1, .ref q1), (0, .ref b)]) hx hb dL_law_1474 hl (k := 0) rfl (by decide) (by decide) rfl (fun ls hl => ?_)
          refine lv_pc (q := 1477) rfl ?_
          refine lv_goto (tgt := 18) hx hb dL_law_1477 (by decide) ?_
          refine lv_iload_n hx hb dL_law_18 rfl (lv_at hl 0 rfl) ?_
          refine lv_aload_n hx hb dL_law_19 rfl (lv_at hl 3 rfl) ?_
          refine va_slen hx hb hX hbl hbA hS dL_law_20 ?_
          refine lv_fixi (y := 7) (by decide) ?_
          refine lv_bipush (v := 7) hx hb dL_law_21 (by decide) ?_
          refine lv_isub hx hb dL_law_23 ?_
          refine lv_fixi (y := 0) (by decide) ?_
          refine lv_pc (q := 24) rfl ?_
          refine lv_icmp_gt (tgt := 1480) hx hb dL_law_24 (by decide) (fun _ => ?_) (fun h9 => absurd (by decide) h9)
          refine lv_iconst (v := 1) hx hb dL_law_1480 (by decide) ?_
          refine va_forget (fun q hq => by have h9 := hS.2.2 q hq; rw [hAe] at h9; exact h9) ?_
          refine W.widen (k := 600000) (n := 7302250) (by decide) (by decide) ?_
          exact lw_ret hx hb hr hlocks dL_law_1481
        have hP : va_P D vwCl [] H := hP
        have hD : va_D A [] := hD
        exfalso
        try simp only [fa_lt, fa_le, fa_eq, Int32.reduceToInt] at c143 w178 w190 w191 w192 w193 w194 w195 w196 w197 w198
        omega
      have hP : va_P D vwCl [(q9, .inr (12, [.int 0, .int 4, .int 4, .ref (u11 0), .ref (u11 1), .ref (u11 2), .ref (u11 3), .int 0, .ref (u11 4), .ref (u11 5), .int 0, .ref (u11 6), .ref (u11 7), .ref (u11 8), .ref (u11 9), .ref (u11 10), .ref (u11 11), .ref (u11 12), .int 0, .ref (u11 13), .ref (u11 14), .ref (u11 15), .ref (u11 16), .ref (u11 17), .ref (u11 18), .int 0, .ref (u11 19), .int 0, .int 0, .int 0, .ref (u11 20), .int 0, .int 0, .ref (u11 21), .int 0, .ref (u11 60), .ref (u11 22), .ref (u11 23), .ref (u11 24), .ref (u11 61), .ref (u11 25), .ref (u11 26), .ref (u11 62), .ref (u11 63), .ref (u11 64), .ref (u11 27), .ref (u11 28), .ref (u11 29), .ref (u11 30), .ref (u11 31), .ref (u11 32), .ref (u11 33), .ref (u11 34), .ref (u11 35), .ref (u11 36), .ref (u11 37), .ref (u11 38), .ref (u11 65), .int 0, .int 0, .int 0, .int 0, .int 0, .long 0, .int 0, .int 0, .int 0, .int 0, .int 0, .int (-1), .int 0, .ref (u11 39), .ref (u11 40), .ref (u11 41), .ref (u11 42), .ref (u11 43), .int 0, .int 0, .ref (u11 44), .ref (u11 45), .ref (u11 46), .ref (u11 47), .ref (u11 48), .ref (u11 49), .ref (u11 50), .ref (u11 51), .int 0, .int 0, .int 0, .int 0, .ref (u11 52), .ref (u11 53), .int 0, .ref (u11 54), .ref (u11 55), .ref (u11 56), .ref (u11 57), .ref (u11 58), .ref (u11 59)])), (u11 6, .inl (K 0, 12, .inl (fun _ => 0))), (u11 7, .inl (K 0, 12, .inl (fun _ => 0))), (u11 8, .inl (K 0, 12, .inl (fun _ => 0))), (u11 9, .inl (K 0, 12, .inl (fun _ => 0))), (u11 10, .inl (K 0, 12, .inl (fun _ => 0))), (u11 11, .inl (K 0, 12, .inl (fun _ => 0))), (u11 12, .inl (K 0, 12, .inl (fun _ => 0)))] H := hP
      have hD : va_D A [(q9, .inr (12, [.int 0, .int 4, .int 4, .ref (u11 0), .ref (u11 1), .ref (u11 2), .ref (u11 3), .int 0, .ref (u11 4), .ref (u11 5), .int 0, .ref (u11 6), .ref (u11 7), .ref (u11 8), .ref (u11 9), .ref (u11 10), .ref (u11 11), .ref (u11 12), .int 0, .ref (u11 13), .ref (u11 14), .ref (u11 15), .ref (u11 16), .ref (u11 17), .ref (u11 18), .int 0, .ref (u11 19), .int 0, .int 0, .int 0, .ref (u11 20), .int 0, .int 0, .ref (u11 21), .int 0, .ref (u11 60), .ref (u11 22), .ref (u11 23), .ref (u11 24), .ref (u11 61), .ref (u11 25), .ref (u11 26), .ref (u11 62), .ref (u11 63), .ref (u11 64), .ref (u11 27), .ref (u11 28), .ref (u11 29), .ref (u11 30), .ref (u11 31), .ref (u11 32), .ref (u11 33), .ref (u11 34), .ref (u11 35), .ref (u11 36), .ref (u11 37), .ref (u11 38), .ref (u11 65), .int 0, .int 0, .int 0, .int 0, .int 0, .long 0, .int 0, .int 0, .int 0, .int 0, .int 0, .int (-1), .int 0, .ref (u11 39), .ref (u11 40), .ref (u11 41), .ref (u11 42), .ref (u11 43), .int 0, .int 0, .ref (u11 44), .ref (u11 45), .ref (u11 46), .ref (u11 47), .ref (u11 48), .ref (u11 49), .ref (u11 50), .ref (u11 51), .int 0, .int 0, .int 0, .int 0, .ref (u11 52), .ref (u11 53), .int 0, .ref (u11 54), .ref (u11 55), .ref (u11 56), .ref (u11 57), .ref (u11 58), .ref (u11 59)])), (u11 6, .inl (K 0, 12, .inl (fun _ => 0))), (u11 7, .inl (K 0, 12, .inl (fun _ => 0))), (u11 8, .inl (K 0, 12, .inl (fun _ => 0))), (u11 9, .inl (K 0, 12, .inl (fun _ => 0))), (u11 10, .inl (K 0, 12, .inl (fun _ => 0))), (u11 11, .inl (K 0, 12, .inl (fun _ => 0))), (u11 12, .inl (K 0, 12, .inl (fun _ => 0)))] := hD
      refine lv_aload_n hx hb dL_law_446 rfl (lv_at hl 1 rfl) ?_
      refine lv_pc (q := 447) rfl ?_
      refine lv_aload_n hx hb dL_law_447 rfl (lv_at hl 3 rfl) ?_
      refine lv_iload_n hx hb dL_law_448 rfl (lv_at hl 0 rfl) ?_
      refine lv_iconst (v := 1) hx hb dL_law_449 (by decide) ?_
      refine lv_iadd hx hb dL_law_450 ?_
      refine lv_fixi (y := 1) (by decide) ?_
      refine va_sld (i := 1) hx hb hX hbl hbA hS (by show ¬ (_ ∨ _); decide) dL_law_451 ?_
      refine lv_fixi (y := (xs 1)) rfl ?_
      refine lv_aload_n hx hb dL_law_452 rfl (lv_at hl 3 rfl) ?_
      refine lv_pc (q := 453) rfl ?_
      refine lv_iload_n hx hb dL_law_453 rfl (lv_at hl 0 rfl) ?_
      refine lv_iconst (v := 2) hx hb dL_law_454 (by decide) ?_
      refine lv_iadd hx hb dL_law_455 ?_
      refine lv_fixi (y := 2) (by decide) ?_
      refine va_sld (i := 2) hx hb hX hbl hbA hS (by show ¬ (_ ∨ _); decide) dL_law_456 ?_
      refine lv_fixi (y := (xs 2)) rfl ?_
      refine lv_aload_n hx hb dL_law_457 rfl (lv_at hl 3 rfl) ?_
      refine lv_iload_n hx hb dL_law_458 rfl (lv_at hl 0 rfl) ?_
      refine lv_pc (q := 459) rfl ?_
      refine lv_iconst (v := 3) hx hb dL_law_459 (by decide) ?_
      refine lv_iadd hx hb dL_law_460 ?_
      refine lv_fixi (y := 3) (by decide) ?_
      refine va_sld (i := 3) hx hb hX hbl hbA hS (by show ¬ (_ ∨ _); decide) dL_law_461 ?_
      refine lv_fixi (y := (xs 3)) rfl ?_
      refine lv_aload_n hx hb dL_law_462 rfl (lv_at hl 3 rfl) ?_
      refine lv_iload_n hx hb dL_law_463 rfl (lv_at hl 0 rfl) ?_
      refine lv_iconst (v := 4) hx hb dL_law_464 (by decide) ?_
      refine lv_pc (q := 465) rfl ?_
      refine lv_iadd hx hb dL_law_465 ?_
      refine lv_fixi (y := 4) (by decide) ?_
      refine va_sld (i := 4) hx hb hX hbl hbA hS (by show ¬ (_ ∨ _); decide) dL_law_466 ?_
      refine lv_fixi (y := (xs 4)) rfl ?_
      refine lv_aload_n hx hb dL_law_467 rfl (lv_at hl 3 rfl) ?_
      refine lv_iload_n hx hb dL_law_468 rfl (lv_at hl 0 rfl) ?_
      refine lv_iconst (v := 5) hx hb dL_law_469 (by decide) ?_
      refine lv_iadd hx hb dL_law_470 ?_
      refine lv_fixi (y := 5) (by decide) ?_
      refine lv_pc (q := 471) rfl ?_
      refine va_sld (i := 5) hx hb hX hbl hbA hS (by show ¬ (_ ∨ _); decide) dL_law_471 ?_
      refine lv_fixi (y := (xs 5)) rfl ?_
      refine lv_if_eq (tgt := 479) hx hb dL_law_472 (by decide) (fun h9 => absurd h9 c143) (fun _ => ?_)
      refine lv_iconst (v := 1) hx hb dL_law_475 (by decide) ?_
      refine lv_goto (tgt := 480) hx hb dL_law_476 (by decide) ?_
      refine lv_aload_n hx hb dL_law_480 rfl (lv_at hl 3 rfl) ?_
      refine lv_iload_n hx hb dL_law_481 rfl (lv_at hl 0 rfl) ?_
      refine lv_pc (q := 482) rfl ?_
      refine lv_bipush (v := 6) hx hb dL_law_482 (by decide) ?_
      refine lv_iadd hx hb dL_law_484 ?_
      refine lv_fixi (y := 6) (by decide) ?_
      refine va_sld (i := 6) hx hb hX hbl hbA hS (by show ¬ (_ ∨ _); decide) dL_law_485 ?_
      refine lv_fixi (y := (xs 6)) rfl ?_
      refine uVi (As := [.int (xs 1), .int (xs 2), .int (xs 3), .int (xs 4), .int 1, .int (xs 6)]) (rest := [.int 0]) (wr := []) [(q9, .inr (12, [.int 0, .int 4, .int 4, .ref (u11 0), .ref (u11 1), .ref (u11 2), .ref (u11 3), .int 0, .ref (u11 4), .ref (u11 5), .int 0, .ref (u11 6), .ref (u11 7), .ref (u11 8), .ref (u11 9), .ref (u11 10), .ref (u11 11), .ref (u11 12), .int 0, .ref (u11 13), .ref (u11 14), .ref (u11 15), .ref (u11 16), .ref (u11 17), .ref (u11 18), .int 0, .ref (u11 19), .int 0, .int 0, .int 0, .ref (u11 20), .int 0, .int 0, .ref (u11 21), .int 0, .ref (u11 60), .ref (u11 22), .ref (u11 23), .ref (u11 24), .ref (u11 61), .ref (u11 25), .ref (u11 26), .ref (u11 62), .ref (u11 63), .ref (u11 64), .ref (u11 27), .ref (u11 28), .ref (u11 29), .ref (u11 30), .ref (u11 31), .ref (u11 32), .ref (u11 33), .ref (u11 34), .ref (u11 35), .ref (u11 36), .ref (u11 37), .ref (u11 38), .ref (u11 65), .int 0, .int 0, .int 0, .int 0, .int 0, .long 0, .int 0, .int 0, .int 0, .int 0, .int 0, .int (-1), .int 0, .ref (u11 39), .ref (u11 40), .ref (u11 41), .ref (u11 42), .ref (u11 43), .int 0, .int 0, .ref (u11 44), .ref (u11 45), .ref (u11 46), .ref (u11 47), .ref (u11 48), .ref (u11 49), .ref (u11 50), .ref (u11 51), .int 0, .int 0, .int 0, .int 0, .ref (u11 52), .ref (u11 53), .int 0, .ref (u11 54), .ref (u11 55), .ref (u11 56), .ref (u11 57), .ref (u11 58), .ref (u11 59)])), (u11 6, .inl (K 0, 12, .inl (fun _ => 0))), (u11 7, .inl (K 0, 12, .inl (fun _ => 0))), (u11 8, .inl (K 0, 12, .inl (fun _ => 0))), (u11 9, .inl (K 0, 12, .inl (fun _ => 0))), (u11 10, .inl (K 0, 12, .inl (fun _ => 0))), (u11 11, .inl (K 0, 12, .inl (fun _ => 0))), (u11 12, .inl (K 0, 12, .inl (fun _ => 0)))] B hl.1 hP hD hS [0, 1, 2, 3, 4, 5, 6, 7] [] rfl rfl rfl (kX12_post_55 l D K _ q9 (u11 6) (u11 7) (u11 8) (u11 9) (u11 10) (u11 11) (u11 12) (u11 0) (u11 1) (u11 2) (u11 3) (u11 4) (u11 5) (u11 13) (u11 14) (u11 15) (u11 16) (u11 17) (u11 18) (u11 19) (u11 20) (u11 21) (u11 60) (u11 22) (u11 23) (u11 24) (u11 61) (u11 25) (u11 26) (u11 62) (u11 63) (u11 64) (u11 27) (u11 28) (u11 29) (u11 30) (u11 31) (u11 32) (u11 33) (u11 34) (u11 35) (u11 36) (u11 37) (u11 38) (u11 65) (u11 39) (u11 40) (u11 41) (u11 42) (u11 43) (u11 44) (u11 45) (u11 46) (u11 47) (u11 48) (u11 49) (u11 50) (u11 51) (u11 52) (u11 53) (u11 54) (u11 55) (u11 56) (u11 57) (u11 58) (u11 59) (fun _ => 0) (fun _ => 0) (fun _ => 0) (fun _ => 0) (fun _ => 0) (fun _ => 0) (fun _ => 0) (xs 1) (xs 2) (xs 3) (xs 4) (xs 6)) wd_X12_post mml_L_42 rfl rfl rfl rfl ⟨Nat.le_of_ble_eq_true rfl, Nat.le_of_ble_eq_true rfl⟩ (Nat.le_of_ble_eq_true rfl) ⟨Nat.le_of_ble_eq_true rfl, Nat.le_of_ble_eq_true rfl⟩ dL_law_486 (fun r199 u H locs hw hP hD hS => ?_)
      try dsimp only at hw
      rcases hw with ⟨rfl, w200⟩ | ⟨rfl, ⟨w201, w202, w203, w204, w205, w206, w207, w208, w209⟩⟩
      · have hP : va_P D vwCl [] H := hP
        have hD : va_D A [] := hD
        exfalso
        try simp only [fa_lt, fa_le, fa_eq, Int32.reduceToInt] at c143 w179 w180 w181 w182 w183 w184 w185 w186 w187 w200
        omega
      have hP : va_P D vwCl [] H := hP
      have hD : va_D A [] := hD
      refine lv_icmp_eq (tgt := 1474) hx hb dL_law_489 (by decide) (fun _ => ?_) (fun h9 => absurd (by decide) h9)
      refine lv_iinc (v := 7) (lv' := [(3, .int 7), (2, .ref q9), (1, .ref q1), (0, .ref b)]) hx hb dL_law_1474 hl (k := 0) rfl (by decide) (by decide) rfl (fun ls hl => ?_)
      refine lv_pc (q := 1477) rfl ?_
      refine lv_goto (tgt := 18) hx hb dL_law_1477 (by decide) ?_
      refine lv_iload_n hx hb dL_law_18 rfl (lv_at hl 0 rfl) ?_
      refine lv_aload_n hx hb dL_law_19 rfl (lv_at hl 3 rfl) ?_
      refine va_slen hx hb hX hbl hbA hS dL_law_20 ?_
      refine lv_fixi (y := 7) (by decide) ?_
      refine lv_bipush (v := 7) hx hb dL_law_21 (by decide) ?_
      refine lv_isub hx hb dL_law_23 ?_
      refine lv_fixi (y := 0) (by decide) ?_
      refine lv_pc (q := 24) rfl ?_
      refine lv_icmp_gt (tgt := 1480) hx hb dL_law_24 (by decide) (fun _ => ?_) (fun h9 => absurd (by decide) h9)
      refine lv_iconst (v := 1) hx hb dL_law_1480 (by decide) ?_
      refine va_forget (fun q hq => by have h9 := hS.2.2 q hq; rw [hAe] at h9; exact h9) ?_
      refine W.widen (k := 600000) (n := 7302250) (by decide) (by decide) ?_
      exact lw_ret hx hb hr hlocks dL_law_1481
    · refine lv_fixi (y := 6) ejj ?_
      refine lv_tableIn (off := 461) (tgt := 494) hx hb dL_law_33 (by decide) (by decide) rfl (by decide) ?_
      replace hP := uSub (wc := [(q1, .inr (11, [.ref (u3 0), .ref (u3 7), .ref (u3 16), .ref (u3 17), .ref (u3 24), .ref (u3 27), .ref (u3 30), .ref (u3 33), .ref (u3 62), .ref (u3 77), .ref (u3 50)])), (u3 7, .inr (4, [.ref (u3 0), .ref (u3 8), .ref (u3 9), .ref (u3 10), .ref (u3 11), .ref (u3 12), .ref (u3 13), .ref (u3 14), .ref (u3 15), .int 0])), (q9, .inr (12, [.int 0, .int 4, .int 4, .ref (u11 0), .ref (u11 1), .ref (u11 2), .ref (u11 3), .int 0, .ref (u11 4), .ref (u11 5), .int 0, .ref (u11 6), .ref (u11 7), .ref (u11 8), .ref (u11 9), .ref (u11 10), .ref (u11 11), .ref (u11 12), .int 0, .ref (u11 13), .ref (u11 14), .ref (u11 15), .ref (u11 16), .ref (u11 17), .ref (u11 18), .int 0, .ref (u11 19), .int 0, .int 0, .int 0, .ref (u11 20), .int 0, .int 0, .ref (u11 21), .int 0, .ref (u11 60), .ref (u11 22), .ref (u11 23), .ref (u11 24), .ref (u11 61), .ref (u11 25), .ref (u11 26), .ref (u11 62), .ref (u11 63), .ref (u11 64), .ref (u11 27), .ref (u11 28), .ref (u11 29), .ref (u11 30), .ref (u11 31), .ref (u11 32), .ref (u11 33), .ref (u11 34), .ref (u11 35), .ref (u11 36), .ref (u11 37), .ref (u11 38), .ref (u11 65), .int 0, .int 0, .int 0, .int 0, .int 0, .long 0, .int 0, .int 0, .int 0, .int 0, .int 0, .int (-1), .int 0, .ref (u11 39), .ref (u11 40), .ref (u11 41), .ref (u11 42), .ref (u11 43), .int 0, .int 0, .ref (u11 44), .ref (u11 45), .ref (u11 46), .ref (u11 47), .ref (u11 48), .ref (u11 49), .ref (u11 50), .ref (u11 51), .int 0, .int 0, .int 0, .int 0, .ref (u11 52), .ref (u11 53), .int 0, .ref (u11 54), .ref (u11 55), .ref (u11 56), .ref (u11 57), .ref (u11 58), .ref (u11 59)]))]) hP [0, 8, 97] rfl
      replace hD := hD.sub (ws' := [(q1, .inr (11, [.ref (u3 0), .ref (u3 7), .ref (u3 16), .ref (u3 17), .ref (u3 24), .ref (u3 27), .ref (u3 30), .ref (u3 33), .ref (u3 62), .ref (u3 77), .ref (u3 50)])), (u3 7, .inr (4, [.ref (u3 0), .ref (u3 8), .ref (u3 9), .ref (u3 10), .ref (u3 11), .ref (u3 12), .ref (u3 13), .ref (u3 14), .ref (u3 15), .int 0])), (q9, .inr (12, [.int 0, .int 4, .int 4, .ref (u11 0), .ref (u11 1), .ref (u11 2), .ref (u11 3), .int 0, .ref (u11 4), .ref (u11 5), .int 0, .ref (u11 6), .ref (u11 7), .ref (u11 8), .ref (u11 9), .ref (u11 10), .ref (u11 11), .ref (u11 12), .int 0, .ref (u11 13), .ref (u11 14), .ref (u11 15), .ref (u11 16), .ref (u11 17), .ref (u11 18), .int 0, .ref (u11 19), .int 0, .int 0, .int 0, .ref (u11 20), .int 0, .int 0, .ref (u11 21), .int 0, .ref (u11 60), .ref (u11 22), .ref (u11 23), .ref (u11 24), .ref (u11 61), .ref (u11 25), .ref (u11 26), .ref (u11 62), .ref (u11 63), .ref (u11 64), .ref (u11 27), .ref (u11 28), .ref (u11 29), .ref (u11 30), .ref (u11 31), .ref (u11 32), .ref (u11 33), .ref (u11 34), .ref (u11 35), .ref (u11 36), .ref (u11 37), .ref (u11 38), .ref (u11 65), .int 0, .int 0, .int 0, .int 0, .int 0, .long 0, .int 0, .int 0, .int 0, .int 0, .int 0, .int (-1), .int 0, .ref (u11 39), .ref (u11 40), .ref (u11 41), .ref (u11 42), .ref (u11 43), .int 0, .int 0, .ref (u11 44), .ref (u11 45), .ref (u11 46), .ref (u11 47), .ref (u11 48), .ref (u11 49), .ref (u11 50), .ref (u11 51), .int 0, .int 0, .int 0, .int 0, .ref (u11 52), .ref (u11 53), .int 0, .ref (u11 54), .ref (u11 55), .ref (u11 56), .ref (u11 57), .ref (u11 58), .ref (u11 59)]))]) [0, 8, 97] rfl rfl
      refine lv_pc (q := 494) rfl ?_
      refine lv_aload_n hx hb dL_law_494 rfl (lv_at hl 2 rfl) ?_
      refine lv_aload_n hx hb dL_law_495 rfl (lv_at hl 3 rfl) ?_
      refine lv_iload_n hx hb dL_law_496 rfl (lv_at hl 0 rfl) ?_
      refine lv_iconst (v := 1) hx hb dL_law_497 (by decide) ?_
      refine lv_iadd hx hb dL_law_498 ?_
      refine lv_fixi (y := 1) (by decide) ?_
      refine va_sld (i := 1) hx hb hX hbl hbA hS (by show ¬ (_ ∨ _); decide) dL_law_499 ?_
      refine lv_fixi (y := (xs 1)) rfl ?_
      refine lv_pc (q := 500) rfl ?_
      refine lv_aload_n hx hb dL_law_500 rfl (lv_at hl 3 rfl) ?_
      refine lv_iload_n hx hb dL_law_501 rfl (lv_at hl 0 rfl) ?_
      refine lv_iconst (v := 2) hx hb dL_law_502 (by decide) ?_
      refine lv_iadd hx hb dL_law_503 ?_
      refine lv_fixi (y := 2) (by decide) ?_
      refine va_sld (i := 2) hx hb hX hbl hbA hS (by show ¬ (_ ∨ _); decide) dL_law_504 ?_
      refine lv_fixi (y := (xs 2)) rfl ?_
      refine lv_aload_n hx hb dL_law_505 rfl (lv_at hl 3 rfl) ?_
      refine lv_pc (q := 506) rfl ?_
      refine lv_iload_n hx hb dL_law_506 rfl (lv_at hl 0 rfl) ?_
      refine lv_iconst (v := 3) hx hb dL_law_507 (by decide) ?_
      refine lv_iadd hx hb dL_law_508 ?_
      refine lv_fixi (y := 3) (by decide) ?_
      refine va_sld (i := 3) hx hb hX hbl hbA hS (by show ¬ (_ ∨ _); decide) dL_law_509 ?_
      refine lv_fixi (y := (xs 3)) rfl ?_
      refine lv_aload_n hx hb dL_law_510 rfl (lv_at hl 3 rfl) ?_
      refine lv_iload_n hx hb dL_law_511 rfl (lv_at hl 0 rfl) ?_
      refine lv_pc (q := 512) rfl ?_
      refine lv_iconst (v := 4) hx hb dL_law_512 (by decide) ?_
      refine lv_iadd hx hb dL_law_513 ?_
      refine lv_fixi (y := 4) (by decide) ?_
      refine va_sld (i := 4) hx hb hX hbl hbA hS (by show ¬ (_ ∨ _); decide) dL_law_514 ?_
      refine lv_fixi (y := (xs 4)) rfl ?_
      refine uVi (As := [.int (xs 1), .int (xs 2), .int (xs 3), .int (xs 4)]) (rest := []) (wr := [(q9, .inr (12, [.int 0, .int 4, .int 4, .ref (u11 0), .ref (u11 1), .ref (u11 2), .ref (u11 3), .int 0, .ref (u11 4), .ref (u11 5), .int 0, .ref (u11 6), .ref (u11 7), .ref (u11 8), .ref (u11 9), .ref (u11 10), .ref (u11 11), .ref (u11 12), .int 0, .ref (u11 13), .ref (u11 14), .ref (u11 15), .ref (u11 16), .ref (u11 17), .ref (u11 18), .int 0, .ref (u11 19), .int 0, .int 0, .int 0, .ref (u11 20), .int 0, .int 0, .ref (u11 21), .int 0, .ref (u11 60), .ref (u11 22), .ref (u11 23), .ref (u11 24), .ref (u11 61), .ref (u11 25), .ref (u11 26), .ref (u11 62), .ref (u11 63), .ref (u11 64), .ref (u11 27), .ref (u11 28), .ref (u11 29), .ref (u11 30), .ref (u11 31), .ref (u11 32), .ref (u11 33), .ref (u11 34), .ref (u11 35), .ref (u11 36), .ref (u11 37), .ref (u11 38), .ref (u11 65), .int 0, .int 0, .int 0, .int 0, .int 0, .long 0, .int 0, .int 0, .int 0, .int 0, .int 0, .int (-1), .int 0, .ref (u11 39), .ref (u11 40), .ref (u11 41), .ref (u11 42), .ref (u11 43), .int 0, .int 0, .ref (u11 44), .ref (u11 45), .ref (u11 46), .ref (u11 47), .ref (u11 48), .ref (u11 49), .ref (u11 50), .ref (u11 51), .int 0, .int 0, .int 0, .int 0, .ref (u11 52), .ref (u11 53), .int 0, .ref (u11 54), .ref (u11 55), .ref (u11 56), .ref (u11 57), .ref (u11 58), .ref (u11 59)]))]) [(q1, .inr (11, [.ref (u3 0), .ref (u3 7), .ref (u3 16), .ref (u3 17), .ref (u3 24), .ref (u3 27), .ref (u3 30), .ref (u3 33), .ref (u3 62), .ref (u3 77), .ref (u3 50)])), (u3 7, .inr (4, [.ref (u3 0), .ref (u3 8), .ref (u3 9), .ref (u3 10), .ref (u3 11), .ref (u3 12), .ref (u3 13), .ref (u3 14), .ref (u3 15), .int 0]))] B hl.1 hP hD hS [0, 1] [2] rfl rfl rfl (kX11_sight_59 l D K _ q1 (u3 7) (u3 0) (u3 16) (u3 17) (u3 24) (u3 27) (u3 30) (u3 33) (u3 62) (u3 77) (u3 50) (u3 8) (u3 9) (u3 10) (u3 11) (u3 12) (u3 13) (u3 14) (u3 15) (xs 1) (xs 2) (xs 3) (xs 4)) wd_X11_sight mml_L_43 rfl rfl rfl rfl ⟨Nat.le_of_ble_eq_true rfl, Nat.le_of_ble_eq_true rfl⟩ (Nat.le_of_ble_eq_true rfl) ⟨Nat.le_of_ble_eq_true rfl, Nat.le_of_ble_eq_true rfl⟩ dL_law_515 (fun r210 u H locs hw hP hD hS => ?_)
      try dsimp only at hw
      rcases hw with ⟨rfl, w211⟩
      have hP : va_P D vwCl [(q9, .inr (12, [.int 0, .int 4, .int 4, .ref (u11 0), .ref (u11 1), .ref (u11 2), .ref (u11 3), .int 0, .ref (u11 4), .ref (u11 5), .int 0, .ref (u11 6), .ref (u11 7), .ref (u11 8), .ref (u11 9), .ref (u11 10), .ref (u11 11), .ref (u11 12), .int 0, .ref (u11 13), .ref (u11 14), .ref (u11 15), .ref (u11 16), .ref (u11 17), .ref (u11 18), .int 0, .ref (u11 19), .int 0, .int 0, .int 0, .ref (u11 20), .int 0, .int 0, .ref (u11 21), .int 0, .ref (u11 60), .ref (u11 22), .ref (u11 23), .ref (u11 24), .ref (u11 61), .ref (u11 25), .ref (u11 26), .ref (u11 62), .ref (u11 63), .ref (u11 64), .ref (u11 27), .ref (u11 28), .ref (u11 29), .ref (u11 30), .ref (u11 31), .ref (u11 32), .ref (u11 33), .ref (u11 34), .ref (u11 35), .ref (u11 36), .ref (u11 37), .ref (u11 38), .ref (u11 65), .int 0, .int 0, .int 0, .int 0, .int 0, .long 0, .int 0, .int 0, .int 0, .int 0, .int 0, .int (-1), .int 0, .ref (u11 39), .ref (u11 40), .ref (u11 41), .ref (u11 42), .ref (u11 43), .int 0, .int 0, .ref (u11 44), .ref (u11 45), .ref (u11 46), .ref (u11 47), .ref (u11 48), .ref (u11 49), .ref (u11 50), .ref (u11 51), .int 0, .int 0, .int 0, .int 0, .ref (u11 52), .ref (u11 53), .int 0, .ref (u11 54), .ref (u11 55), .ref (u11 56), .ref (u11 57), .ref (u11 58), .ref (u11 59)]))] H := hP
      have hD : va_D A [(q9, .inr (12, [.int 0, .int 4, .int 4, .ref (u11 0), .ref (u11 1), .ref (u11 2), .ref (u11 3), .int 0, .ref (u11 4), .ref (u11 5), .int 0, .ref (u11 6), .ref (u11 7), .ref (u11 8), .ref (u11 9), .ref (u11 10), .ref (u11 11), .ref (u11 12), .int 0, .ref (u11 13), .ref (u11 14), .ref (u11 15), .ref (u11 16), .ref (u11 17), .ref (u11 18), .int 0, .ref (u11 19), .int 0, .int 0, .int 0, .ref (u11 20), .int 0, .int 0, .ref (u11 21), .int 0, .ref (u11 60), .ref (u11 22), .ref (u11 23), .ref (u11 24), .ref (u11 61), .ref (u11 25), .ref (u11 26), .ref (u11 62), .ref (u11 63), .ref (u11 64), .ref (u11 27), .ref (u11 28), .ref (u11 29), .ref (u11 30), .ref (u11 31), .ref (u11 32), .ref (u11 33), .ref (u11 34), .ref (u11 35), .ref (u11 36), .ref (u11 37), .ref (u11 38), .ref (u11 65), .int 0, .int 0, .int 0, .int 0, .int 0, .long 0, .int 0, .int 0, .int 0, .int 0, .int 0, .int (-1), .int 0, .ref (u11 39), .ref (u11 40), .ref (u11 41), .ref (u11 42), .ref (u11 43), .int 0, .int 0, .ref (u11 44), .ref (u11 45), .ref (u11 46), .ref (u11 47), .ref (u11 48), .ref (u11 49), .ref (u11 50), .ref (u11 51), .int 0, .int 0, .int 0, .int 0, .ref (u11 52), .ref (u11 53), .int 0, .ref (u11 54), .ref (u11 55), .ref (u11 56), .ref (u11 57), .ref (u11 58), .ref (u11 59)]))] := hD
      refine lv_aload_n hx hb dL_law_518 rfl (lv_at hl 1 rfl) ?_
      refine lv_aload_n hx hb dL_law_519 rfl (lv_at hl 3 rfl) ?_
      refine lv_pc (q := 520) rfl ?_
      refine lv_iload_n hx hb dL_law_520 rfl (lv_at hl 0 rfl) ?_
      refine lv_iconst (v := 1) hx hb dL_law_521 (by decide) ?_
      refine lv_iadd hx hb dL_law_522 ?_
      refine lv_fixi (y := 1) (by decide) ?_
      refine va_sld (i := 1) hx hb hX hbl hbA hS (by show ¬ (_ ∨ _); decide) dL_law_523 ?_
      refine lv_fixi (y := (xs 1)) rfl ?_
      refine lv_aload_n hx hb dL_law_524 rfl (lv_at hl 3 rfl) ?_
      refine lv_iload_n hx hb dL_law_525 rfl (lv_at hl 0 rfl) ?_
      refine lv_pc (q := 526) rfl ?_
      refine lv_iconst (v := 2) hx hb dL_law_526 (by decide) ?_
      refine lv_iadd hx hb dL_law_527 ?_
      refine lv_fixi (y := 2) (by decide) ?_
      refine va_sld (i := 2) hx hb hX hbl hbA hS (by show ¬ (_ ∨ _); decide) dL_law_528 ?_
      refine lv_fixi (y := (xs 2)) rfl ?_
      refine lv_aload_n hx hb dL_law_529 rfl (lv_at hl 3 rfl) ?_
      refine lv_iload_n hx hb dL_law_530 rfl (lv_at hl 0 rfl) ?_
      refine lv_iconst (v := 3) hx hb dL_law_531 (by decide) ?_
      refine lv_pc (q := 532) rfl ?_
      refine lv_iadd hx hb dL_law_532 ?_
      refine lv_fixi (y := 3) (by decide) ?_
      refine va_sld (i := 3) hx hb hX hbl hbA hS (by show ¬ (_ ∨ _); decide) dL_law_533 ?_
      refine lv_fixi (y := (xs 3)) rfl ?_
      refine lv_aload_n hx hb dL_law_534 rfl (lv_at hl 3 rfl) ?_
      refine lv_iload_n hx hb dL_law_535 rfl (lv_at hl 0 rfl) ?_
      refine lv_iconst (v := 4) hx hb dL_law_536 (by decide) ?_
      refine lv_iadd hx hb dL_law_537 ?_
      refine lv_fixi (y := 4) (by decide) ?_
      refine lv_pc (q := 538) rfl ?_
      refine va_sld (i := 4) hx hb hX hbl hbA hS (by show ¬ (_ ∨ _); decide) dL_law_538 ?_
      refine lv_fixi (y := (xs 4)) rfl ?_
      refine uVi (As := [.int (xs 1), .int (xs 2), .int (xs 3), .int (xs 4)]) (rest := [.int (-1)]) (wr := []) [(q9, .inr (12, [.int 0, .int 4, .int 4, .ref (u11 0), .ref (u11 1), .ref (u11 2), .ref (u11 3), .int 0, .ref (u11 4), .ref (u11 5), .int 0, .ref (u11 6), .ref (u11 7), .ref (u11 8), .ref (u11 9), .ref (u11 10), .ref (u11 11), .ref (u11 12), .int 0, .ref (u11 13), .ref (u11 14), .ref (u11 15), .ref (u11 16), .ref (u11 17), .ref (u11 18), .int 0, .ref (u11 19), .int 0, .int 0, .int 0, .ref (u11 20), .int 0, .int 0, .ref (u11 21), .int 0, .ref (u11 60), .ref (u11 22), .ref (u11 23), .ref (u11 24), .ref (u11 61), .ref (u11 25), .ref (u11 26), .ref (u11 62), .ref (u11 63), .ref (u11 64), .ref (u11 27), .ref (u11 28), .ref (u11 29), .ref (u11 30), .ref (u11 31), .ref (u11 32), .ref (u11 33), .ref (u11 34), .ref (u11 35), .ref (u11 36), .ref (u11 37), .ref (u11 38), .ref (u11 65), .int 0, .int 0, .int 0, .int 0, .int 0, .long 0, .int 0, .int 0, .int 0, .int 0, .int 0, .int (-1), .int 0, .ref (u11 39), .ref (u11 40), .ref (u11 41), .ref (u11 42), .ref (u11 43), .int 0, .int 0, .ref (u11 44), .ref (u11 45), .ref (u11 46), .ref (u11 47), .ref (u11 48), .ref (u11 49), .ref (u11 50), .ref (u11 51), .int 0, .int 0, .int 0, .int 0, .ref (u11 52), .ref (u11 53), .int 0, .ref (u11 54), .ref (u11 55), .ref (u11 56), .ref (u11 57), .ref (u11 58), .ref (u11 59)]))] B hl.1 hP hD hS [0] [] rfl rfl rfl (kX12_sight_63 l D K _ q9 (u11 0) (u11 1) (u11 2) (u11 3) (u11 4) (u11 5) (u11 6) (u11 7) (u11 8) (u11 9) (u11 10) (u11 11) (u11 12) (u11 13) (u11 14) (u11 15) (u11 16) (u11 17) (u11 18) (u11 19) (u11 20) (u11 21) (u11 60) (u11 22) (u11 23) (u11 24) (u11 61) (u11 25) (u11 26) (u11 62) (u11 63) (u11 64) (u11 27) (u11 28) (u11 29) (u11 30) (u11 31) (u11 32) (u11 33) (u11 34) (u11 35) (u11 36) (u11 37) (u11 38) (u11 65) (u11 39) (u11 40) (u11 41) (u11 42) (u11 43) (u11 44) (u11 45) (u11 46) (u11 47) (u11 48) (u11 49) (u11 50) (u11 51) (u11 52) (u11 53) (u11 54) (u11 55) (u11 56) (u11 57) (u11 58) (u11 59) (xs 1) (xs 2) (xs 3) (xs 4)) wd_X12_sight mml_L_47 rfl rfl rfl rfl ⟨Nat.le_of_ble_eq_true rfl, Nat.le_of_ble_eq_true rfl⟩ (Nat.le_of_ble_eq_true rfl) ⟨Nat.le_of_ble_eq_true rfl, Nat.le_of_ble_eq_true rfl⟩ dL_law_539 (fun r212 u H locs hw hP hD hS => ?_)
      try dsimp only at hw
      rcases hw with ⟨rfl, w213⟩
      have hP : va_P D vwCl [] H := hP
      have hD : va_D A [] := hD
      refine lv_icmp_eq (tgt := 1474) hx hb dL_law_542 (by decide) (fun _ => ?_) (fun h9 => absurd (by decide) h9)
      refine lv_iinc (v := 7) (lv' := [(3, .int 7), (2, .ref q9), (1, .ref q1), (0, .ref b)]) hx hb dL_law_1474 hl (k := 0) rfl (by decide) (by decide) rfl (fun ls hl => ?_)
      refine lv_goto (tgt := 18) hx hb dL_law_1477 (by decide) ?_
      refine lv_iload_n hx hb dL_law_18 rfl (lv_at hl 0 rfl) ?_
      refine lv_pc (q := 19) rfl ?_
      refine lv_aload_n hx hb dL_law_19 rfl (lv_at hl 3 rfl) ?_
      refine va_slen hx hb hX hbl hbA hS dL_law_20 ?_
      refine lv_fixi (y := 7) (by decide) ?_
      refine lv_bipush (v := 7) hx hb dL_law_21 (by decide) ?_
      refine lv_isub hx hb dL_law_23 ?_
      refine lv_fixi (y := 0) (by decide) ?_
      refine lv_icmp_gt (tgt := 1480) hx hb dL_law_24 (by decide) (fun _ => ?_) (fun h9 => absurd (by decide) h9)
      refine lv_iconst (v := 1) hx hb dL_law_1480 (by decide) ?_
      refine lv_pc (q := 1481) rfl ?_
      refine va_forget (fun q hq => by have h9 := hS.2.2 q hq; rw [hAe] at h9; exact h9) ?_
      refine W.widen (k := 600000) (n := 7302250) (by decide) (by decide) ?_
      exact lw_ret hx hb hr hlocks dL_law_1481
    · refine lv_fixi (y := 7) ejj ?_
      refine lv_tableIn (off := 514) (tgt := 547) hx hb dL_law_33 (by decide) (by decide) rfl (by decide) ?_
      replace hP := uSub (wc := [(q1, .inr (11, [.ref (u3 0), .ref (u3 7), .ref (u3 16), .ref (u3 17), .ref (u3 24), .ref (u3 27), .ref (u3 30), .ref (u3 33), .ref (u3 62), .ref (u3 77), .ref (u3 50)])), (u3 7, .inr (4, [.ref (u3 0), .ref (u3 8), .ref (u3 9), .ref (u3 10), .ref (u3 11), .ref (u3 12), .ref (u3 13), .ref (u3 14), .ref (u3 15), .int 0])), (q9, .inr (12, [.int 0, .int 4, .int 4, .ref (u11 0), .ref (u11 1), .ref (u11 2), .ref (u11 3), .int 0, .ref (u11 4), .ref (u11 5), .int 0, .ref (u11 6), .ref (u11 7), .ref (u11 8), .ref (u11 9), .ref (u11 10), .ref (u11 11), .ref (u11 12), .int 0, .ref (u11 13), .ref (u11 14), .ref (u11 15), .ref (u11 16), .ref (u11 17), .ref (u11 18), .int 0, .ref (u11 19), .int 0, .int 0, .int 0, .ref (u11 20), .int 0, .int 0, .ref (u11 21), .int 0, .ref (u11 60), .ref (u11 22), .ref (u11 23), .ref (u11 24), .ref (u11 61), .ref (u11 25), .ref (u11 26), .ref (u11 62), .ref (u11 63), .ref (u11 64), .ref (u11 27), .ref (u11 28), .ref (u11 29), .ref (u11 30), .ref (u11 31), .ref (u11 32), .ref (u11 33), .ref (u11 34), .ref (u11 35), .ref (u11 36), .ref (u11 37), .ref (u11 38), .ref (u11 65), .int 0, .int 0, .int 0, .int 0, .int 0, .long 0, .int 0, .int 0, .int 0, .int 0, .int 0, .int (-1), .int 0, .ref (u11 39), .ref (u11 40), .ref (u11 41), .ref (u11 42), .ref (u11 43), .int 0, .int 0, .ref (u11 44), .ref (u11 45), .ref (u11 46), .ref (u11 47), .ref (u11 48), .ref (u11 49), .ref (u11 50), .ref (u11 51), .int 0, .int 0, .int 0, .int 0, .ref (u11 52), .ref (u11 53), .int 0, .ref (u11 54), .ref (u11 55), .ref (u11 56), .ref (u11 57), .ref (u11 58), .ref (u11 59)]))]) hP [0, 8, 97] rfl
      replace hD := hD.sub (ws' := [(q1, .inr (11, [.ref (u3 0), .ref (u3 7), .ref (u3 16), .ref (u3 17), .ref (u3 24), .ref (u3 27), .ref (u3 30), .ref (u3 33), .ref (u3 62), .ref (u3 77), .ref (u3 50)])), (u3 7, .inr (4, [.ref (u3 0), .ref (u3 8), .ref (u3 9), .ref (u3 10), .ref (u3 11), .ref (u3 12), .ref (u3 13), .ref (u3 14), .ref (u3 15), .int 0])), (q9, .inr (12, [.int 0, .int 4, .int 4, .ref (u11 0), .ref (u11 1), .ref (u11 2), .ref (u11 3), .int 0, .ref (u11 4), .ref (u11 5), .int 0, .ref (u11 6), .ref (u11 7), .ref (u11 8), .ref (u11 9), .ref (u11 10), .ref (u11 11), .ref (u11 12), .int 0, .ref (u11 13), .ref (u11 14), .ref (u11 15), .ref (u11 16), .ref (u11 17), .ref (u11 18), .int 0, .ref (u11 19), .int 0, .int 0, .int 0, .ref (u11 20), .int 0, .int 0, .ref (u11 21), .int 0, .ref (u11 60), .ref (u11 22), .ref (u11 23), .ref (u11 24), .ref (u11 61), .ref (u11 25), .ref (u11 26), .ref (u11 62), .ref (u11 63), .ref (u11 64), .ref (u11 27), .ref (u11 28), .ref (u11 29), .ref (u11 30), .ref (u11 31), .ref (u11 32), .ref (u11 33), .ref (u11 34), .ref (u11 35), .ref (u11 36), .ref (u11 37), .ref (u11 38), .ref (u11 65), .int 0, .int 0, .int 0, .int 0, .int 0, .long 0, .int 0, .int 0, .int 0, .int 0, .int 0, .int (-1), .int 0, .ref (u11 39), .ref (u11 40), .ref (u11 41), .ref (u11 42), .ref (u11 43), .int 0, .int 0, .ref (u11 44), .ref (u11 45), .ref (u11 46), .ref (u11 47), .ref (u11 48), .ref (u11 49), .ref (u11 50), .ref (u11 51), .int 0, .int 0, .int 0, .int 0, .ref (u11 52), .ref (u11 53), .int 0, .ref (u11 54), .ref (u11 55), .ref (u11 56), .ref (u11 57), .ref (u11 58), .ref (u11 59)]))]) [0, 8, 97] rfl rfl
      refine lv_pc (q := 547) rfl ?_
      refine lv_aload_n hx hb dL_law_547 rfl (lv_at hl 2 rfl) ?_
      refine lv_aload_n hx hb dL_law_548 rfl (lv_at hl 3 rfl) ?_
      refine lv_iload_n hx hb dL_law_549 rfl (lv_at hl 0 rfl) ?_
      refine lv_iconst (v := 1) hx hb dL_law_550 (by decide) ?_
      refine lv_iadd hx hb dL_law_551 ?_
      refine lv_fixi (y := 1) (by decide) ?_
      refine va_sld (i := 1) hx hb hX hbl hbA hS (by show ¬ (_ ∨ _); decide) dL_law_552 ?_
      refine lv_fixi (y := (xs 1)) rfl ?_
      refine lv_pc (q := 553) rfl ?_
      refine lv_aload_n hx hb dL_law_553 rfl (lv_at hl 3 rfl) ?_
      refine lv_iload_n hx hb dL_law_554 rfl (lv_at hl 0 rfl) ?_
      refine lv_iconst (v := 2) hx hb dL_law_555 (by decide) ?_
      refine lv_iadd hx hb dL_law_556 ?_
      refine lv_fixi (y := 2) (by decide) ?_
      refine va_sld (i := 2) hx hb hX hbl hbA hS (by show ¬ (_ ∨ _); decide) dL_law_557 ?_
      refine lv_fixi (y := (xs 2)) rfl ?_
      refine lv_aload_n hx hb dL_law_558 rfl (lv_at hl 3 rfl) ?_
      refine lv_pc (q := 559) rfl ?_
      refine lv_iload_n hx hb dL_law_559 rfl (lv_at hl 0 rfl) ?_
      refine lv_iconst (v := 3) hx hb dL_law_560 (by decide) ?_
      refine lv_iadd hx hb dL_law_561 ?_
      refine lv_fixi (y := 3) (by decide) ?_
      refine va_sld (i := 3) hx hb hX hbl hbA hS (by show ¬ (_ ∨ _); decide) dL_law_562 ?_
      refine lv_fixi (y := (xs 3)) rfl ?_
      refine lv_if_eq (tgt := 570) hx hb dL_law_563 (by decide) (fun c214 => ?_) (fun c214 => ?_)
      · refine lv_iconst (v := 0) hx hb dL_law_570 (by decide) ?_
        refine lv_pc (q := 571) rfl ?_
        refine uVi (As := [.int (xs 1), .int (xs 2), .int 0]) (rest := []) (wr := [(q9, .inr (12, [.int 0, .int 4, .int 4, .ref (u11 0), .ref (u11 1), .ref (u11 2), .ref (u11 3), .int 0, .ref (u11 4), .ref (u11 5), .int 0, .ref (u11 6), .ref (u11 7), .ref (u11 8), .ref (u11 9), .ref (u11 10), .ref (u11 11), .ref (u11 12), .int 0, .ref (u11 13), .ref (u11 14), .ref (u11 15), .ref (u11 16), .ref (u11 17), .ref (u11 18), .int 0, .ref (u11 19), .int 0, .int 0, .int 0, .ref (u11 20), .int 0, .int 0, .ref (u11 21), .int 0, .ref (u11 60), .ref (u11 22), .ref (u11 23), .ref (u11 24), .ref (u11 61), .ref (u11 25), .ref (u11 26), .ref (u11 62), .ref (u11 63), .ref (u11 64), .ref (u11 27), .ref (u11 28), .ref (u11 29), .ref (u11 30), .ref (u11 31), .ref (u11 32), .ref (u11 33), .ref (u11 34), .ref (u11 35), .ref (u11 36), .ref (u11 37), .ref (u11 38), .ref (u11 65), .int 0, .int 0, .int 0, .int 0, .int 0, .long 0, .int 0, .int 0, .int 0, .int 0, .int 0, .int (-1), .int 0, .ref (u11 39), .ref (u11 40), .ref (u11 41), .ref (u11 42), .ref (u11 43), .int 0, .int 0, .ref (u11 44), .ref (u11 45), .ref (u11 46), .ref (u11 47), .ref (u11 48), .ref (u11 49), .ref (u11 50), .ref (u11 51), .int 0, .int 0, .int 0, .int 0, .ref (u11 52), .ref (u11 53), .int 0, .ref (u11 54), .ref (u11 55), .ref (u11 56), .ref (u11 57), .ref (u11 58), .ref (u11 59)]))]) [(q1, .inr (11, [.ref (u3 0), .ref (u3 7), .ref (u3 16), .ref (u3 17), .ref (u3 24), .ref (u3 27), .ref (u3 30), .ref (u3 33), .ref (u3 62), .ref (u3 77), .ref (u3 50)])), (u3 7, .inr (4, [.ref (u3 0), .ref (u3 8), .ref (u3 9), .ref (u3 10), .ref (u3 11), .ref (u3 12), .ref (u3 13), .ref (u3 14), .ref (u3 15), .int 0]))] B hl.1 hP hD hS [0, 1] [2] rfl rfl rfl (kX11_block_64 l D K _ q1 (u3 7) (u3 0) (u3 16) (u3 17) (u3 24) (u3 27) (u3 30) (u3 33) (u3 62) (u3 77) (u3 50) (u3 8) (u3 9) (u3 10) (u3 11) (u3 12) (u3 13) (u3 14) (u3 15) (xs 1) (xs 2)) wd_X11_block mml_L_48 rfl rfl rfl rfl ⟨Nat.le_of_ble_eq_true rfl, Nat.le_of_ble_eq_true rfl⟩ (Nat.le_of_ble_eq_true rfl) ⟨Nat.le_of_ble_eq_true rfl, Nat.le_of_ble_eq_true rfl⟩ dL_law_571 (fun r215 u H locs hw hP hD hS => ?_)
        try dsimp only at hw
        rcases hw with ⟨rfl, w216⟩
        have hP : va_P D vwCl [(q9, .inr (12, [.int 0, .int 4, .int 4, .ref (u11 0), .ref (u11 1), .ref (u11 2), .ref (u11 3), .int 0, .ref (u11 4), .ref (u11 5), .int 0, .ref (u11 6), .ref (u11 7), .ref (u11 8), .ref (u11 9), .ref (u11 10), .ref (u11 11), .ref (u11 12), .int 0, .ref (u11 13), .ref (u11 14), .ref (u11 15), .ref (u11 16), .ref (u11 17), .ref (u11 18), .int 0, .ref (u11 19), .int 0, .int 0, .int 0, .ref (u11 20), .int 0, .int 0, .ref (u11 21), .int 0, .ref (u11 60), .ref (u11 22), .ref (u11 23), .ref (u11 24), .ref (u11 61), .ref (u11 25), .ref (u11 26), .ref (u11 62), .ref (u11 63), .ref (u11 64), .ref (u11 27), .ref (u11 28), .ref (u11 29), .ref (u11 30), .ref (u11 31), .ref (u11 32), .ref (u11 33), .ref (u11 34), .ref (u11 35), .ref (u11 36), .ref (u11 37), .ref (u11 38), .ref (u11 65), .int 0, .int 0, .int 0, .int 0, .int 0, .long 0, .int 0, .int 0, .int 0, .int 0, .int 0, .int (-1), .int 0, .ref (u11 39), .ref (u11 40), .ref (u11 41), .ref (u11 42), .ref (u11 43), .int 0, .int 0, .ref (u11 44), .ref (u11 45), .ref (u11 46), .ref (u11 47), .ref (u11 48), .ref (u11 49), .ref (u11 50), .ref (u11 51), .int 0, .int 0, .int 0, .int 0, .ref (u11 52), .ref (u11 53), .int 0, .ref (u11 54), .ref (u11 55), .ref (u11 56), .ref (u11 57), .ref (u11 58), .ref (u11 59)]))] H := hP
        have hD : va_D A [(q9, .inr (12, [.int 0, .int 4, .int 4, .ref (u11 0), .ref (u11 1), .ref (u11 2), .ref (u11 3), .int 0, .ref (u11 4), .ref (u11 5), .int 0, .ref (u11 6), .ref (u11 7), .ref (u11 8), .ref (u11 9), .ref (u11 10), .ref (u11 11), .ref (u11 12), .int 0, .ref (u11 13), .ref (u11 14), .ref (u11 15), .ref (u11 16), .ref (u11 17), .ref (u11 18), .int 0, .ref (u11 19), .int 0, .int 0, .int 0, .ref (u11 20), .int 0, .int 0, .ref (u11 21), .int 0, .ref (u11 60), .ref (u11 22), .ref (u11 23), .ref (u11 24), .ref (u11 61), .ref (u11 25), .ref (u11 26), .ref (u11 62), .ref (u11 63), .ref (u11 64), .ref (u11 27), .ref (u11 28), .ref (u11 29), .ref (u11 30), .ref (u11 31), .ref (u11 32), .ref (u11 33), .ref (u11 34), .ref (u11 35), .ref (u11 36), .ref (u11 37), .ref (u11 38), .ref (u11 65), .int 0, .int 0, .int 0, .int 0, .int 0, .long 0, .int 0, .int 0, .int 0, .int 0, .int 0, .int (-1), .int 0, .ref (u11 39), .ref (u11 40), .ref (u11 41), .ref (u11 42), .ref (u11 43), .int 0, .int 0, .ref (u11 44), .ref (u11 45), .ref (u11 46), .ref (u11 47), .ref (u11 48), .ref (u11 49), .ref (u11 50), .ref (u11 51), .int 0, .int 0, .int 0, .int 0, .ref (u11 52), .ref (u11 53), .int 0, .ref (u11 54), .ref (u11 55), .ref (u11 56), .ref (u11 57), .ref (u11 58), .ref (u11 59)]))] := hD
        refine lv_aload_n hx hb dL_law_574 rfl (lv_at hl 1 rfl) ?_
        refine lv_aload_n hx hb dL_law_575 rfl (lv_at hl 3 rfl) ?_
        refine lv_iload_n hx hb dL_law_576 rfl (lv_at hl 0 rfl) ?_
        refine lv_iconst (v := 1) hx hb dL_law_577 (by decide) ?_
        refine lv_iadd hx hb dL_law_578 ?_
        refine lv_fixi (y := 1) (by decide) ?_
        refine lv_pc (q := 579) rfl ?_
        refine va_sld (i := 1) hx hb hX hbl hbA hS (by show ¬ (_ ∨ _); decide) dL_law_579 ?_
        refine lv_fixi (y := (xs 1)) rfl ?_
        refine lv_aload_n hx hb dL_law_580 rfl (lv_at hl 3 rfl) ?_
        refine lv_iload_n hx hb dL_law_581 rfl (lv_at hl 0 rfl) ?_
        refine lv_iconst (v := 2) hx hb dL_law_582 (by decide) ?_
        refine lv_iadd hx hb dL_law_583 ?_
        refine lv_fixi (y := 2) (by decide) ?_
        refine va_sld (i := 2) hx hb hX hbl hbA hS (by show ¬ (_ ∨ _); decide) dL_law_584 ?_
        refine lv_fixi (y := (xs 2)) rfl ?_
        refine lv_pc (q := 585) rfl ?_
        refine lv_aload_n hx hb dL_law_585 rfl (lv_at hl 3 rfl) ?_
        refine lv_iload_n hx hb dL_law_586 rfl (lv_at hl 0 rfl) ?_
        refine lv_iconst (v := 3) hx hb dL_law_587 (by decide) ?_
        refine lv_iadd hx hb dL_law_588 ?_
        refine lv_fixi (y := 3) (by decide) ?_
        refine va_sld (i := 3) hx hb hX hbl hbA hS (by show ¬ (_ ∨ _); decide) dL_law_589 ?_
        refine lv_fixi (y := (xs 3)) rfl ?_
        refine lv_if_eq (tgt := 597) hx hb dL_law_590 (by decide) (fun _ => ?_) (fun h9 => absurd c214 h9)
        refine lv_pc (q := 597) rfl ?_
        refine lv_iconst (v := 0) hx hb dL_law_597 (by decide) ?_
        refine uVi (As := [.int (xs 1), .int (xs 2), .int 0]) (rest := [.int (-1)]) (wr := []) [(q9, .inr (12, [.int 0, .int 4, .int 4, .ref (u11 0), .ref (u11 1), .ref (u11 2), .ref (u11 3), .int 0, .ref (u11 4), .ref (u11 5), .int 0, .ref (u11 6), .ref (u11 7), .ref (u11 8), .ref (u11 9), .ref (u11 10), .ref (u11 11), .ref (u11 12), .int 0, .ref (u11 13), .ref (u11 14), .ref (u11 15), .ref (u11 16), .ref (u11 17), .ref (u11 18), .int 0, .ref (u11 19), .int 0, .int 0, .int 0, .ref (u11 20), .int 0, .int 0, .ref (u11 21), .int 0, .ref (u11 60), .ref (u11 22), .ref (u11 23), .ref (u11 24), .ref (u11 61), .ref (u11 25), .ref (u11 26), .ref (u11 62), .ref (u11 63), .ref (u11 64), .ref (u11 27), .ref (u11 28), .ref (u11 29), .ref (u11 30), .ref (u11 31), .ref (u11 32), .ref (u11 33), .ref (u11 34), .ref (u11 35), .ref (u11 36), .ref (u11 37), .ref (u11 38), .ref (u11 65), .int 0, .int 0, .int 0, .int 0, .int 0, .long 0, .int 0, .int 0, .int 0, .int 0, .int 0, .int (-1), .int 0, .ref (u11 39), .ref (u11 40), .ref (u11 41), .ref (u11 42), .ref (u11 43), .int 0, .int 0, .ref (u11 44), .ref (u11 45), .ref (u11 46), .ref (u11 47), .ref (u11 48), .ref (u11 49), .ref (u11 50), .ref (u11 51), .int 0, .int 0, .int 0, .int 0, .ref (u11 52), .ref (u11 53), .int 0, .ref (u11 54), .ref (u11 55), .ref (u11 56), .ref (u11 57), .ref (u11 58), .ref (u11 59)]))] B hl.1 hP hD hS [0] [] rfl rfl rfl (kX12_block_65 l D K _ q9 (u11 0) (u11 1) (u11 2) (u11 3) (u11 4) (u11 5) (u11 6) (u11 7) (u11 8) (u11 9) (u11 10) (u11 11) (u11 12) (u11 13) (u11 14) (u11 15) (u11 16) (u11 17) (u11 18) (u11 19) (u11 20) (u11 21) (u11 60) (u11 22) (u11 23) (u11 24) (u11 61) (u11 25) (u11 26) (u11 62) (u11 63) (u11 64) (u11 27) (u11 28) (u11 29) (u11 30) (u11 31) (u11 32) (u11 33) (u11 34) (u11 35) (u11 36) (u11 37) (u11 38) (u11 65) (u11 39) (u11 40) (u11 41) (u11 42) (u11 43) (u11 44) (u11 45) (u11 46) (u11 47) (u11 48) (u11 49) (u11 50) (u11 51) (u11 52) (u11 53) (u11 54) (u11 55) (u11 56) (u11 57) (u11 58) (u11 59) (xs 1) (xs 2)) wd_X12_block mml_L_52 rfl rfl rfl rfl ⟨Nat.le_of_ble_eq_true rfl, Nat.le_of_ble_eq_true rfl⟩ (Nat.le_of_ble_eq_true rfl) ⟨Nat.le_of_ble_eq_true rfl, Nat.le_of_ble_eq_true rfl⟩ dL_law_598 (fun r217 u H locs hw hP hD hS => ?_)
        try dsimp only at hw
        rcases hw with ⟨rfl, w218⟩
        have hP : va_P D vwCl [] H := hP
        have hD : va_D A [] := hD
        refine lv_icmp_eq (tgt := 1474) hx hb dL_law_601 (by decide) (fun _ => ?_) (fun h9 => absurd (by decide) h9)
        refine lv_iinc (v := 7) (lv' := [(3, .int 7), (2, .ref q9), (1, .ref q1), (0, .ref b)]) hx hb dL_law_1474 hl (k := 0) rfl (by decide) (by decide) rfl (fun ls hl => ?_)
        refine lv_goto (tgt := 18) hx hb dL_law_1477 (by decide) ?_
        refine lv_iload_n hx hb dL_law_18 rfl (lv_at hl 0 rfl) ?_
        refine lv_pc (q := 19) rfl ?_
        refine lv_aload_n hx hb dL_law_19 rfl (lv_at hl 3 rfl) ?_
        refine va_slen hx hb hX hbl hbA hS dL_law_20 ?_
        refine lv_fixi (y := 7) (by decide) ?_
        refine lv_bipush (v := 7) hx hb dL_law_21 (by decide) ?_
        refine lv_isub hx hb dL_law_23 ?_
        refine lv_fixi (y := 0) (by decide) ?_
        refine lv_icmp_gt (tgt := 1480) hx hb dL_law_24 (by decide) (fun _ => ?_) (fun h9 => absurd (by decide) h9)
        refine lv_iconst (v := 1) hx hb dL_law_1480 (by decide) ?_
        refine lv_pc (q := 1481) rfl ?_
        refine va_forget (fun q hq => by have h9 := hS.2.2 q hq; rw [hAe] at h9; exact h9) ?_
        refine W.widen (k := 600000) (n := 7302250) (by decide) (by decide) ?_
        exact lw_ret hx hb hr hlocks dL_law_1481
      refine lv_iconst (v := 1) hx hb dL_law_566 (by decide) ?_
      refine lv_pc (q := 567) rfl ?_
      refine lv_goto (tgt := 571) hx hb dL_law_567 (by decide) ?_
      refine uVi (As := [.int (xs 1), .int (xs 2), .int 1]) (rest := []) (wr := [(q9, .inr (12, [.int 0, .int 4, .int 4, .ref (u11 0), .ref (u11 1), .ref (u11 2), .ref (u11 3), .int 0, .ref (u11 4), .ref (u11 5), .int 0, .ref (u11 6), .ref (u11 7), .ref (u11 8), .ref (u11 9), .ref (u11 10), .ref (u11 11), .ref (u11 12), .int 0, .ref (u11 13), .ref (u11 14), .ref (u11 15), .ref (u11 16), .ref (u11 17), .ref (u11 18), .int 0, .ref (u11 19), .int 0, .int 0, .int 0, .ref (u11 20), .int 0, .int 0, .ref (u11 21), .int 0, .ref (u11 60), .ref (u11 22), .ref (u11 23), .ref (u11 24), .ref (u11 61), .ref (u11 25), .ref (u11 26), .ref (u11 62), .ref (u11 63), .ref (u11 64), .ref (u11 27), .ref (u11 28), .ref (u11 29), .ref (u11 30), .ref (u11 31), .ref (u11 32), .ref (u11 33), .ref (u11 34), .ref (u11 35), .ref (u11 36), .ref (u11 37), .ref (u11 38), .ref (u11 65), .int 0, .int 0, .int 0, .int 0, .int 0, .long 0, .int 0, .int 0, .int 0, .int 0, .int 0, .int (-1), .int 0, .ref (u11 39), .ref (u11 40), .ref (u11 41), .ref (u11 42), .ref (u11 43), .int 0, .int 0, .ref (u11 44), .ref (u11 45), .ref (u11 46), .ref (u11 47), .ref (u11 48), .ref (u11 49), .ref (u11 50), .ref (u11 51), .int 0, .int 0, .int 0, .int 0, .ref (u11 52), .ref (u11 53), .int 0, .ref (u11 54), .ref (u11 55), .ref (u11 56), .ref (u11 57), .ref (u11 58), .ref (u11 59)]))]) [(q1, .inr (11, [.ref (u3 0), .ref (u3 7), .ref (u3 16), .ref (u3 17), .ref (u3 24), .ref (u3 27), .ref (u3 30), .ref (u3 33), .ref (u3 62), .ref (u3 77), .ref (u3 50)])), (u3 7, .inr (4, [.ref (u3 0), .ref (u3 8), .ref (u3 9), .ref (u3 10), .ref (u3 11), .ref (u3 12), .ref (u3 13), .ref (u3 14), .ref (u3 15), .int 0]))] B hl.1 hP hD hS [0, 1] [2] rfl rfl rfl (kX11_block_66 l D K _ q1 (u3 7) (u3 0) (u3 16) (u3 17) (u3 24) (u3 27) (u3 30) (u3 33) (u3 62) (u3 77) (u3 50) (u3 8) (u3 9) (u3 10) (u3 11) (u3 12) (u3 13) (u3 14) (u3 15) (xs 1) (xs 2)) wd_X11_block mml_L_48 rfl rfl rfl rfl ⟨Nat.le_of_ble_eq_true rfl, Nat.le_of_ble_eq_true rfl⟩ (Nat.le_of_ble_eq_true rfl) ⟨Nat.le_of_ble_eq_true rfl, Nat.le_of_ble_eq_true rfl⟩ dL_law_571 (fun r219 u H locs hw hP hD hS => ?_)
      try dsimp only at hw
      rcases hw with ⟨rfl, w220⟩
      have hP : va_P D vwCl [(q9, .inr (12, [.int 0, .int 4, .int 4, .ref (u11 0), .ref (u11 1), .ref (u11 2), .ref (u11 3), .int 0, .ref (u11 4), .ref (u11 5), .int 0, .ref (u11 6), .ref (u11 7), .ref (u11 8), .ref (u11 9), .ref (u11 10), .ref (u11 11), .ref (u11 12), .int 0, .ref (u11 13), .ref (u11 14), .ref (u11 15), .ref (u11 16), .ref (u11 17), .ref (u11 18), .int 0, .ref (u11 19), .int 0, .int 0, .int 0, .ref (u11 20), .int 0, .int 0, .ref (u11 21), .int 0, .ref (u11 60), .ref (u11 22), .ref (u11 23), .ref (u11 24), .ref (u11 61), .ref (u11 25), .ref (u11 26), .ref (u11 62), .ref (u11 63), .ref (u11 64), .ref (u11 27), .ref (u11 28), .ref (u11 29), .ref (u11 30), .ref (u11 31), .ref (u11 32), .ref (u11 33), .ref (u11 34), .ref (u11 35), .ref (u11 36), .ref (u11 37), .ref (u11 38), .ref (u11 65), .int 0, .int 0, .int 0, .int 0, .int 0, .long 0, .int 0, .int 0, .int 0, .int 0, .int 0, .int (-1), .int 0, .ref (u11 39), .ref (u11 40), .ref (u11 41), .ref (u11 42), .ref (u11 43), .int 0, .int 0, .ref (u11 44), .ref (u11 45), .ref (u11 46), .ref (u11 47), .ref (u11 48), .ref (u11 49), .ref (u11 50), .ref (u11 51), .int 0, .int 0, .int 0, .int 0, .ref (u11 52), .ref (u11 53), .int 0, .ref (u11 54), .ref (u11 55), .ref (u11 56), .ref (u11 57), .ref (u11 58), .ref (u11 59)]))] H := hP
      have hD : va_D A [(q9, .inr (12, [.int 0, .int 4, .int 4, .ref (u11 0), .ref (u11 1), .ref (u11 2), .ref (u11 3), .int 0, .ref (u11 4), .ref (u11 5), .int 0, .ref (u11 6), .ref (u11 7), .ref (u11 8), .ref (u11 9), .ref (u11 10), .ref (u11 11), .ref (u11 12), .int 0, .ref (u11 13), .ref (u11 14), .ref (u11 15), .ref (u11 16), .ref (u11 17), .ref (u11 18), .int 0, .ref (u11 19), .int 0, .int 0, .int 0, .ref (u11 20), .int 0, .int 0, .ref (u11 21), .int 0, .ref (u11 60), .ref (u11 22), .ref (u11 23), .ref (u11 24), .ref (u11 61), .ref (u11 25), .ref (u11 26), .ref (u11 62), .ref (u11 63), .ref (u11 64), .ref (u11 27), .ref (u11 28), .ref (u11 29), .ref (u11 30), .ref (u11 31), .ref (u11 32), .ref (u11 33), .ref (u11 34), .ref (u11 35), .ref (u11 36), .ref (u11 37), .ref (u11 38), .ref (u11 65), .int 0, .int 0, .int 0, .int 0, .int 0, .long 0, .int 0, .int 0, .int 0, .int 0, .int 0, .int (-1), .int 0, .ref (u11 39), .ref (u11 40), .ref (u11 41), .ref (u11 42), .ref (u11 43), .int 0, .int 0, .ref (u11 44), .ref (u11 45), .ref (u11 46), .ref (u11 47), .ref (u11 48), .ref (u11 49), .ref (u11 50), .ref (u11 51), .int 0, .int 0, .int 0, .int 0, .ref (u11 52), .ref (u11 53), .int 0, .ref (u11 54), .ref (u11 55), .ref (u11 56), .ref (u11 57), .ref (u11 58), .ref (u11 59)]))] := hD
      refine lv_aload_n hx hb dL_law_574 rfl (lv_at hl 1 rfl) ?_
      refine lv_aload_n hx hb dL_law_575 rfl (lv_at hl 3 rfl) ?_
      refine lv_iload_n hx hb dL_law_576 rfl (lv_at hl 0 rfl) ?_
      refine lv_iconst (v := 1) hx hb dL_law_577 (by decide) ?_
      refine lv_pc (q := 578) rfl ?_
      refine lv_iadd hx hb dL_law_578 ?_
      refine lv_fixi (y := 1) (by decide) ?_
      refine va_sld (i := 1) hx hb hX hbl hbA hS (by show ¬ (_ ∨ _); decide) dL_law_579 ?_
      refine lv_fixi (y := (xs 1)) rfl ?_
      refine lv_aload_n hx hb dL_law_580 rfl (lv_at hl 3 rfl) ?_
      refine lv_iload_n hx hb dL_law_581 rfl (lv_at hl 0 rfl) ?_
      refine lv_iconst (v := 2) hx hb dL_law_582 (by decide) ?_
      refine lv_iadd hx hb dL_law_583 ?_
      refine lv_fixi (y := 2) (by decide) ?_
      refine lv_pc (q := 584) rfl ?_
      refine va_sld (i := 2) hx hb hX hbl hbA hS (by show ¬ (_ ∨ _); decide) dL_law_584 ?_
      refine lv_fixi (y := (xs 2)) rfl ?_
      refine lv_aload_n hx hb dL_law_585 rfl (lv_at hl 3 rfl) ?_
      refine lv_iload_n hx hb dL_law_586 rfl (lv_at hl 0 rfl) ?_
      refine lv_iconst (v := 3) hx hb dL_law_587 (by decide) ?_
      refine lv_iadd hx hb dL_law_588 ?_
      refine lv_fixi (y := 3) (by decide) ?_
      refine va_sld (i := 3) hx hb hX hbl hbA hS (by show ¬ (_ ∨ _); decide) dL_law_589 ?_
      refine lv_fixi (y := (xs 3)) rfl ?_
      refine lv_pc (q := 590) rfl ?_
      refine lv_if_eq (tgt := 597) hx hb dL_law_590 (by decide) (fun h9 => absurd h9 c214) (fun _ => ?_)
      refine lv_iconst (v := 1) hx hb dL_law_593 (by decide) ?_
      refine lv_goto (tgt := 598) hx hb dL_law_594 (by decide) ?_
      refine uVi (As := [.int (xs 1), .int (xs 2), .int 1]) (rest := [.int (-1)]) (wr := []) [(q9, .inr (12, [.int 0, .int 4, .int 4, .ref (u11 0), .ref (u11 1), .ref (u11 2), .ref (u11 3), .int 0, .ref (u11 4), .ref (u11 5), .int 0, .ref (u11 6), .ref (u11 7), .ref (u11 8), .ref (u11 9), .ref (u11 10), .ref (u11 11), .ref (u11 12), .int 0, .ref (u11 13), .ref (u11 14), .ref (u11 15), .ref (u11 16), .ref (u11 17), .ref (u11 18), .int 0, .ref (u11 19), .int 0, .int 0, .int 0, .ref (u11 20), .int 0, .int 0, .ref (u11 21), .int 0, .ref (u11 60), .ref (u11 22), .ref (u11 23), .ref (u11 24), .ref (u11 61), .ref (u11 25), .ref (u11 26), .ref (u11 62), .ref (u11 63), .ref (u11 64), .ref (u11 27), .ref (u11 28), .ref (u11 29), .ref (u11 30), .ref (u11 31), .ref (u11 32), .ref (u11 33), .ref (u11 34), .ref (u11 35), .ref (u11 36), .ref (u11 37), .ref (u11 38), .ref (u11 65), .int 0, .int 0, .int 0, .int 0, .int 0, .long 0, .int 0, .int 0, .int 0, .int 0, .int 0, .int (-1), .int 0, .ref (u11 39), .ref (u11 40), .ref (u11 41), .ref (u11 42), .ref (u11 43), .int 0, .int 0, .ref (u11 44), .ref (u11 45), .ref (u11 46), .ref (u11 47), .ref (u11 48), .ref (u11 49), .ref (u11 50), .ref (u11 51), .int 0, .int 0, .int 0, .int 0, .ref (u11 52), .ref (u11 53), .int 0, .ref (u11 54), .ref (u11 55), .ref (u11 56), .ref (u11 57), .ref (u11 58), .ref (u11 59)]))] B hl.1 hP hD hS [0] [] rfl rfl rfl (kX12_block_67 l D K _ q9 (u11 0) (u11 1) (u11 2) (u11 3) (u11 4) (u11 5) (u11 6) (u11 7) (u11 8) (u11 9) (u11 10) (u11 11) (u11 12) (u11 13) (u11 14) (u11 15) (u11 16) (u11 17) (u11 18) (u11 19) (u11 20) (u11 21) (u11 60) (u11 22) (u11 23) (u11 24) (u11 61) (u11 25) (u11 26) (u11 62) (u11 63) (u11 64) (u11 27) (u11 28) (u11 29) (u11 30) (u11 31) (u11 32) (u11 33) (u11 34) (u11 35) (u11 36) (u11 37) (u11 38) (u11 65) (u11 39) (u11 40) (u11 41) (u11 42) (u11 43) (u11 44) (u11 45) (u11 46) (u11 47) (u11 48) (u11 49) (u11 50) (u11 51) (u11 52) (u11 53) (u11 54) (u11 55) (u11 56) (u11 57) (u11 58) (u11 59) (xs 1) (xs 2)) wd_X12_block mml_L_52 rfl rfl rfl rfl ⟨Nat.le_of_ble_eq_true rfl, Nat.le_of_ble_eq_true rfl⟩ (Nat.le_of_ble_eq_true rfl) ⟨Nat.le_of_ble_eq_true rfl, Nat.le_of_ble_eq_true rfl⟩ dL_law_598 (fun r221 u H locs hw hP hD hS => ?_)
      try dsimp only at hw
      rcases hw with ⟨rfl, w222⟩
      have hP : va_P D vwCl [] H := hP
      have hD : va_D A [] := hD
      refine lv_icmp_eq (tgt := 1474) hx hb dL_law_601 (by decide) (fun _ => ?_) (fun h9 => absurd (by decide) h9)
      refine lv_iinc (v := 7) (lv' := [(3, .int 7), (2, .ref q9), (1, .ref q1), (0, .ref b)]) hx hb dL_law_1474 hl (k := 0) rfl (by decide) (by decide) rfl (fun ls hl => ?_)
      refine lv_pc (q := 1477) rfl ?_
      refine lv_goto (tgt := 18) hx hb dL_law_1477 (by decide) ?_
      refine lv_iload_n hx hb dL_law_18 rfl (lv_at hl 0 rfl) ?_
      refine lv_aload_n hx hb dL_law_19 rfl (lv_at hl 3 rfl) ?_
      refine va_slen hx hb hX hbl hbA hS dL_law_20 ?_
      refine lv_fixi (y := 7) (by decide) ?_
      refine lv_bipush (v := 7) hx hb dL_law_21 (by decide) ?_
      refine lv_isub hx hb dL_law_23 ?_
      refine lv_fixi (y := 0) (by decide) ?_
      refine lv_pc (q := 24) rfl ?_
      refine lv_icmp_gt (tgt := 1480) hx hb dL_law_24 (by decide) (fun _ => ?_) (fun h9 => absurd (by decide) h9)
      refine lv_iconst (v := 1) hx hb dL_law_1480 (by decide) ?_
      refine va_forget (fun q hq => by have h9 := hS.2.2 q hq; rw [hAe] at h9; exact h9) ?_
      refine W.widen (k := 600000) (n := 7302250) (by decide) (by decide) ?_
      exact lw_ret hx hb hr hlocks dL_law_1481
    · refine lv_fixi (y := 8) ejj ?_
      refine lv_tableIn (off := 573) (tgt := 606) hx hb dL_law_33 (by decide) (by decide) rfl (by decide) ?_
      replace hP := uSub (wc := [(q1, .inr (11, [.ref (u3 0), .ref (u3 7), .ref (u3 16), .ref (u3 17), .ref (u3 24), .ref (u3 27), .ref (u3 30), .ref (u3 33), .ref (u3 62), .ref (u3 77), .ref (u3 50)])), (u3 7, .inr (4, [.ref (u3 0), .ref (u3 8), .ref (u3 9), .ref (u3 10), .ref (u3 11), .ref (u3 12), .ref (u3 13), .ref (u3 14), .ref (u3 15), .int 0])), (q9, .inr (12, [.int 0, .int 4, .int 4, .ref (u11 0), .ref (u11 1), .ref (u11 2), .ref (u11 3), .int 0, .ref (u11 4), .ref (u11 5), .int 0, .ref (u11 6), .ref (u11 7), .ref (u11 8), .ref (u11 9), .ref (u11 10), .ref (u11 11), .ref (u11 12), .int 0, .ref (u11 13), .ref (u11 14), .ref (u11 15), .ref (u11 16), .ref (u11 17), .ref (u11 18), .int 0, .ref (u11 19), .int 0, .int 0, .int 0, .ref (u11 20), .int 0, .int 0, .ref (u11 21), .int 0, .ref (u11 60), .ref (u11 22), .ref (u11 23), .ref (u11 24), .ref (u11 61), .ref (u11 25), .ref (u11 26), .ref (u11 62), .ref (u11 63), .ref (u11 64), .ref (u11 27), .ref (u11 28), .ref (u11 29), .ref (u11 30), .ref (u11 31), .ref (u11 32), .ref (u11 33), .ref (u11 34), .ref (u11 35), .ref (u11 36), .ref (u11 37), .ref (u11 38), .ref (u11 65), .int 0, .int 0, .int 0, .int 0, .int 0, .long 0, .int 0, .int 0, .int 0, .int 0, .int 0, .int (-1), .int 0, .ref (u11 39), .ref (u11 40), .ref (u11 41), .ref (u11 42), .ref (u11 43), .int 0, .int 0, .ref (u11 44), .ref (u11 45), .ref (u11 46), .ref (u11 47), .ref (u11 48), .ref (u11 49), .ref (u11 50), .ref (u11 51), .int 0, .int 0, .int 0, .int 0, .ref (u11 52), .ref (u11 53), .int 0, .ref (u11 54), .ref (u11 55), .ref (u11 56), .ref (u11 57), .ref (u11 58), .ref (u11 59)]))]) hP [0, 8, 97] rfl
      replace hD := hD.sub (ws' := [(q1, .inr (11, [.ref (u3 0), .ref (u3 7), .ref (u3 16), .ref (u3 17), .ref (u3 24), .ref (u3 27), .ref (u3 30), .ref (u3 33), .ref (u3 62), .ref (u3 77), .ref (u3 50)])), (u3 7, .inr (4, [.ref (u3 0), .ref (u3 8), .ref (u3 9), .ref (u3 10), .ref (u3 11), .ref (u3 12), .ref (u3 13), .ref (u3 14), .ref (u3 15), .int 0])), (q9, .inr (12, [.int 0, .int 4, .int 4, .ref (u11 0), .ref (u11 1), .ref (u11 2), .ref (u11 3), .int 0, .ref (u11 4), .ref (u11 5), .int 0, .ref (u11 6), .ref (u11 7), .ref (u11 8), .ref (u11 9), .ref (u11 10), .ref (u11 11), .ref (u11 12), .int 0, .ref (u11 13), .ref (u11 14), .ref (u11 15), .ref (u11 16), .ref (u11 17), .ref (u11 18), .int 0, .ref (u11 19), .int 0, .int 0, .int 0, .ref (u11 20), .int 0, .int 0, .ref (u11 21), .int 0, .ref (u11 60), .ref (u11 22), .ref (u11 23), .ref (u11 24), .ref (u11 61), .ref (u11 25), .ref (u11 26), .ref (u11 62), .ref (u11 63), .ref (u11 64), .ref (u11 27), .ref (u11 28), .ref (u11 29), .ref (u11 30), .ref (u11 31), .ref (u11 32), .ref (u11 33), .ref (u11 34), .ref (u11 35), .ref (u11 36), .ref (u11 37), .ref (u11 38), .ref (u11 65), .int 0, .int 0, .int 0, .int 0, .int 0, .long 0, .int 0, .int 0, .int 0, .int 0, .int 0, .int (-1), .int 0, .ref (u11 39), .ref (u11 40), .ref (u11 41), .ref (u11 42), .ref (u11 43), .int 0, .int 0, .ref (u11 44), .ref (u11 45), .ref (u11 46), .ref (u11 47), .ref (u11 48), .ref (u11 49), .ref (u11 50), .ref (u11 51), .int 0, .int 0, .int 0, .int 0, .ref (u11 52), .ref (u11 53), .int 0, .ref (u11 54), .ref (u11 55), .ref (u11 56), .ref (u11 57), .ref (u11 58), .ref (u11 59)]))]) [0, 8, 97] rfl rfl
      refine lv_pc (q := 606) rfl ?_
      refine lv_aload_n hx hb dL_law_606 rfl (lv_at hl 2 rfl) ?_
      refine lv_aload_n hx hb dL_law_607 rfl (lv_at hl 3 rfl) ?_
      refine lv_iload_n hx hb dL_law_608 rfl (lv_at hl 0 rfl) ?_
      refine lv_iconst (v := 1) hx hb dL_law_609 (by decide) ?_
      refine lv_iadd hx hb dL_law_610 ?_
      refine lv_fixi (y := 1) (by decide) ?_
      refine va_sld (i := 1) hx hb hX hbl hbA hS (by show ¬ (_ ∨ _); decide) dL_law_611 ?_
      refine lv_fixi (y := (xs 1)) rfl ?_
      refine lv_pc (q := 612) rfl ?_
      refine lv_aload_n hx hb dL_law_612 rfl (lv_at hl 3 rfl) ?_
      refine lv_iload_n hx hb dL_law_613 rfl (lv_at hl 0 rfl) ?_
      refine lv_iconst (v := 2) hx hb dL_law_614 (by decide) ?_
      refine lv_iadd hx hb dL_law_615 ?_
      refine lv_fixi (y := 2) (by decide) ?_
      refine va_sld (i := 2) hx hb hX hbl hbA hS (by show ¬ (_ ∨ _); decide) dL_law_616 ?_
      refine lv_fixi (y := (xs 2)) rfl ?_
      refine uVi (As := [.int (xs 1), .int (xs 2)]) (rest := []) (wr := [(q9, .inr (12, [.int 0, .int 4, .int 4, .ref (u11 0), .ref (u11 1), .ref (u11 2), .ref (u11 3), .int 0, .ref (u11 4), .ref (u11 5), .int 0, .ref (u11 6), .ref (u11 7), .ref (u11 8), .ref (u11 9), .ref (u11 10), .ref (u11 11), .ref (u11 12), .int 0, .ref (u11 13), .ref (u11 14), .ref (u11 15), .ref (u11 16), .ref (u11 17), .ref (u11 18), .int 0, .ref (u11 19), .int 0, .int 0, .int 0, .ref (u11 20), .int 0, .int 0, .ref (u11 21), .int 0, .ref (u11 60), .ref (u11 22), .ref (u11 23), .ref (u11 24), .ref (u11 61), .ref (u11 25), .ref (u11 26), .ref (u11 62), .ref (u11 63), .ref (u11 64), .ref (u11 27), .ref (u11 28), .ref (u11 29), .ref (u11 30), .ref (u11 31), .ref (u11 32), .ref (u11 33), .ref (u11 34), .ref (u11 35), .ref (u11 36), .ref (u11 37), .ref (u11 38), .ref (u11 65), .int 0, .int 0, .int 0, .int 0, .int 0, .long 0, .int 0, .int 0, .int 0, .int 0, .int 0, .int (-1), .int 0, .ref (u11 39), .ref (u11 40), .ref (u11 41), .ref (u11 42), .ref (u11 43), .int 0, .int 0, .ref (u11 44), .ref (u11 45), .ref (u11 46), .ref (u11 47), .ref (u11 48), .ref (u11 49), .ref (u11 50), .ref (u11 51), .int 0, .int 0, .int 0, .int 0, .ref (u11 52), .ref (u11 53), .int 0, .ref (u11 54), .ref (u11 55), .ref (u11 56), .ref (u11 57), .ref (u11 58), .ref (u11 59)]))]) [(q1, .inr (11, [.ref (u3 0), .ref (u3 7), .ref (u3 16), .ref (u3 17), .ref (u3 24), .ref (u3 27), .ref (u3 30), .ref (u3 33), .ref (u3 62), .ref (u3 77), .ref (u3 50)])), (u3 7, .inr (4, [.ref (u3 0), .ref (u3 8), .ref (u3 9), .ref (u3 10), .ref (u3 11), .ref (u3 12), .ref (u3 13), .ref (u3 14), .ref (u3 15), .int 0]))] B hl.1 hP hD hS [0, 1] [2] rfl rfl rfl (kX11_raise_68 l D K _ q1 (u3 7) (u3 0) (u3 16) (u3 17) (u3 24) (u3 27) (u3 30) (u3 33) (u3 62) (u3 77) (u3 50) (u3 8) (u3 9) (u3 10) (u3 11) (u3 12) (u3 13) (u3 14) (u3 15) (xs 1) (xs 2)) wd_X11_raise mml_L_53 rfl rfl rfl rfl ⟨Nat.le_of_ble_eq_true rfl, Nat.le_of_ble_eq_true rfl⟩ (Nat.le_of_ble_eq_true rfl) ⟨Nat.le_of_ble_eq_true rfl, Nat.le_of_ble_eq_true rfl⟩ dL_law_617 (fun r223 u H locs hw hP hD hS => ?_)
      try dsimp only at hw
      rcases hw with ⟨rfl, w224⟩
      have hP : va_P D vwCl [(q9, .inr (12, [.int 0, .int 4, .int 4, .ref (u11 0), .ref (u11 1), .ref (u11 2), .ref (u11 3), .int 0, .ref (u11 4), .ref (u11 5), .int 0, .ref (u11 6), .ref (u11 7), .ref (u11 8), .ref (u11 9), .ref (u11 10), .ref (u11 11), .ref (u11 12), .int 0, .ref (u11 13), .ref (u11 14), .ref (u11 15), .ref (u11 16), .ref (u11 17), .ref (u11 18), .int 0, .ref (u11 19), .int 0, .int 0, .int 0, .ref (u11 20), .int 0, .int 0, .ref (u11 21), .int 0, .ref (u11 60), .ref (u11 22), .ref (u11 23), .ref (u11 24), .ref (u11 61), .ref (u11 25), .ref (u11 26), .ref (u11 62), .ref (u11 63), .ref (u11 64), .ref (u11 27), .ref (u11 28), .ref (u11 29), .ref (u11 30), .ref (u11 31), .ref (u11 32), .ref (u11 33), .ref (u11 34), .ref (u11 35), .ref (u11 36), .ref (u11 37), .ref (u11 38), .ref (u11 65), .int 0, .int 0, .int 0, .int 0, .int 0, .long 0, .int 0, .int 0, .int 0, .int 0, .int 0, .int (-1), .int 0, .ref (u11 39), .ref (u11 40), .ref (u11 41), .ref (u11 42), .ref (u11 43), .int 0, .int 0, .ref (u11 44), .ref (u11 45), .ref (u11 46), .ref (u11 47), .ref (u11 48), .ref (u11 49), .ref (u11 50), .ref (u11 51), .int 0, .int 0, .int 0, .int 0, .ref (u11 52), .ref (u11 53), .int 0, .ref (u11 54), .ref (u11 55), .ref (u11 56), .ref (u11 57), .ref (u11 58), .ref (u11 59)]))] H := hP
      have hD : va_D A [(q9, .inr (12, [.int 0, .int 4, .int 4, .ref (u11 0), .ref (u11 1), .ref (u11 2), .ref (u11 3), .int 0, .ref (u11 4), .ref (u11 5), .int 0, .ref (u11 6), .ref (u11 7), .ref (u11 8), .ref (u11 9), .ref (u11 10), .ref (u11 11), .ref (u11 12), .int 0, .ref (u11 13), .ref (u11 14), .ref (u11 15), .ref (u11 16), .ref (u11 17), .ref (u11 18), .int 0, .ref (u11 19), .int 0, .int 0, .int 0, .ref (u11 20), .int 0, .int 0, .ref (u11 21), .int 0, .ref (u11 60), .ref (u11 22), .ref (u11 23), .ref (u11 24), .ref (u11 61), .ref (u11 25), .ref (u11 26), .ref (u11 62), .ref (u11 63), .ref (u11 64), .ref (u11 27), .ref (u11 28), .ref (u11 29), .ref (u11 30), .ref (u11 31), .ref (u11 32), .ref (u11 33), .ref (u11 34), .ref (u11 35), .ref (u11 36), .ref (u11 37), .ref (u11 38), .ref (u11 65), .int 0, .int 0, .int 0, .int 0, .int 0, .long 0, .int 0, .int 0, .int 0, .int 0, .int 0, .int (-1), .int 0, .ref (u11 39), .ref (u11 40), .ref (u11 41), .ref (u11 42), .ref (u11 43), .int 0, .int 0, .ref (u11 44), .ref (u11 45), .ref (u11 46), .ref (u11 47), .ref (u11 48), .ref (u11 49), .ref (u11 50), .ref (u11 51), .int 0, .int 0, .int 0, .int 0, .ref (u11 52), .ref (u11 53), .int 0, .ref (u11 54), .ref (u11 55), .ref (u11 56), .ref (u11 57), .ref (u11 58), .ref (u11 59)]))] := hD
      refine lv_pc (q := 620) rfl ?_
      refine lv_aload_n hx hb dL_law_620 rfl (lv_at hl 1 rfl) ?_
      refine lv_aload_n hx hb dL_law_621 rfl (lv_at hl 3 rfl) ?_
      refine lv_iload_n hx hb dL_law_622 rfl (lv_at hl 0 rfl) ?_
      refine lv_iconst (v := 1) hx hb dL_law_623 (by decide) ?_
      refine lv_iadd hx hb dL_law_624 ?_
      refine lv_fixi (y := 1) (by decide) ?_
      refine va_sld (i := 1) hx hb hX hbl hbA hS (by show ¬ (_ ∨ _); decide) dL_law_625 ?_
      refine lv_fixi (y := (xs 1)) rfl ?_
      refine lv_pc (q := 626) rfl ?_
      refine lv_aload_n hx hb dL_law_626 rfl (lv_at hl 3 rfl) ?_
      refine lv_iload_n hx hb dL_law_627 rfl (lv_at hl 0 rfl) ?_
      refine lv_iconst (v := 2) hx hb dL_law_628 (by decide) ?_
      refine lv_iadd hx hb dL_law_629 ?_
      refine lv_fixi (y := 2) (by decide) ?_
      refine va_sld (i := 2) hx hb hX hbl hbA hS (by show ¬ (_ ∨ _); decide) dL_law_630 ?_
      refine lv_fixi (y := (xs 2)) rfl ?_
      refine uVi (As := [.int (xs 1), .int (xs 2)]) (rest := [.int (-1)]) (wr := []) [(q9, .inr (12, [.int 0, .int 4, .int 4, .ref (u11 0), .ref (u11 1), .ref (u11 2), .ref (u11 3), .int 0, .ref (u11 4), .ref (u11 5), .int 0, .ref (u11 6), .ref (u11 7), .ref (u11 8), .ref (u11 9), .ref (u11 10), .ref (u11 11), .ref (u11 12), .int 0, .ref (u11 13), .ref (u11 14), .ref (u11 15), .ref (u11 16), .ref (u11 17), .ref (u11 18), .int 0, .ref (u11 19), .int 0, .int 0, .int 0, .ref (u11 20), .int 0, .int 0, .ref (u11 21), .int 0, .ref (u11 60), .ref (u11 22), .ref (u11 23), .ref (u11 24), .ref (u11 61), .ref (u11 25), .ref (u11 26), .ref (u11 62), .ref (u11 63), .ref (u11 64), .ref (u11 27), .ref (u11 28), .ref (u11 29), .ref (u11 30), .ref (u11 31), .ref (u11 32), .ref (u11 33), .ref (u11 34), .ref (u11 35), .ref (u11 36), .ref (u11 37), .ref (u11 38), .ref (u11 65), .int 0, .int 0, .int 0, .int 0, .int 0, .long 0, .int 0, .int 0, .int 0, .int 0, .int 0, .int (-1), .int 0, .ref (u11 39), .ref (u11 40), .ref (u11 41), .ref (u11 42), .ref (u11 43), .int 0, .int 0, .ref (u11 44), .ref (u11 45), .ref (u11 46), .ref (u11 47), .ref (u11 48), .ref (u11 49), .ref (u11 50), .ref (u11 51), .int 0, .int 0, .int 0, .int 0, .ref (u11 52), .ref (u11 53), .int 0, .ref (u11 54), .ref (u11 55), .ref (u11 56), .ref (u11 57), .ref (u11 58), .ref (u11 59)]))] B hl.1 hP hD hS [0] [] rfl rfl rfl (kX12_raise_69 l D K _ q9 (u11 0) (u11 1) (u11 2) (u11 3) (u11 4) (u11 5) (u11 6) (u11 7) (u11 8) (u11 9) (u11 10) (u11 11) (u11 12) (u11 13) (u11 14) (u11 15) (u11 16) (u11 17) (u11 18) (u11 19) (u11 20) (u11 21) (u11 60) (u11 22) (u11 23) (u11 24) (u11 61) (u11 25) (u11 26) (u11 62) (u11 63) (u11 64) (u11 27) (u11 28) (u11 29) (u11 30) (u11 31) (u11 32) (u11 33) (u11 34) (u11 35) (u11 36) (u11 37) (u11 38) (u11 65) (u11 39) (u11 40) (u11 41) (u11 42) (u11 43) (u11 44) (u11 45) (u11 46) (u11 47) (u11 48) (u11 49) (u11 50) (u11 51) (u11 52) (u11 53) (u11 54) (u11 55) (u11 56) (u11 57) (u11 58) (u11 59) (xs 1) (xs 2)) wd_X12_raise mml_L_57 rfl rfl rfl rfl ⟨Nat.le_of_ble_eq_true rfl, Nat.le_of_ble_eq_true rfl⟩ (Nat.le_of_ble_eq_true rfl) ⟨Nat.le_of_ble_eq_true rfl, Nat.le_of_ble_eq_true rfl⟩ dL_law_631 (fun r225 u H locs hw hP hD hS => ?_)
      try dsimp only at hw
      rcases hw with ⟨rfl, w226⟩
      have hP : va_P D vwCl [] H := hP
      have hD : va_D A [] := hD
      refine lv_pc (q := 634) rfl ?_
      refine lv_icmp_eq (tgt := 1474) hx hb dL_law_634 (by decide) (fun _ => ?_) (fun h9 => absurd (by decide) h9)
      refine lv_iinc (v := 7) (lv' := [(3, .int 7), (2, .ref q9), (1, .ref q1), (0, .ref b)]) hx hb dL_law_1474 hl (k := 0) rfl (by decide) (by decide) rfl (fun ls hl => ?_)
      refine lv_goto (tgt := 18) hx hb dL_law_1477 (by decide) ?_
      refine lv_iload_n hx hb dL_law_18 rfl (lv_at hl 0 rfl) ?_
      refine lv_aload_n hx hb dL_law_19 rfl (lv_at hl 3 rfl) ?_
      refine va_slen hx hb hX hbl hbA hS dL_law_20 ?_
      refine lv_fixi (y := 7) (by decide) ?_
      refine lv_pc (q := 21) rfl ?_
      refine lv_bipush (v := 7) hx hb dL_law_21 (by decide) ?_
      refine lv_isub hx hb dL_law_23 ?_
      refine lv_fixi (y := 0) (by decide) ?_
      refine lv_icmp_gt (tgt := 1480) hx hb dL_law_24 (by decide) (fun _ => ?_) (fun h9 => absurd (by decide) h9)
      refine lv_iconst (v := 1) hx hb dL_law_1480 (by decide) ?_
      refine va_forget (fun q hq => by have h9 := hS.2.2 q hq; rw [hAe] at h9; exact h9) ?_
      refine W.widen (k := 600000) (n := 7302250) (by decide) (by decide) ?_
      exact lw_ret hx hb hr hlocks dL_law_1481
    · refine lv_fixi (y := 9) ejj ?_
      refine lv_tableIn (off := 606) (tgt := 639) hx hb dL_law_33 (by decide) (by decide) rfl (by decide) ?_
      replace hP := uSub (wc := [(q1, .inr (11, [.ref (u3 0), .ref (u3 7), .ref (u3 16), .ref (u3 17), .ref (u3 24), .ref (u3 27), .ref (u3 30), .ref (u3 33), .ref (u3 62), .ref (u3 77), .ref (u3 50)])), (u3 7, .inr (4, [.ref (u3 0), .ref (u3 8), .ref (u3 9), .ref (u3 10), .ref (u3 11), .ref (u3 12), .ref (u3 13), .ref (u3 14), .ref (u3 15), .int 0])), (q9, .inr (12, [.int 0, .int 4, .int 4, .ref (u11 0), .ref (u11 1), .ref (u11 2), .ref (u11 3), .int 0, .ref (u11 4), .ref (u11 5), .int 0, .ref (u11 6), .ref (u11 7), .ref (u11 8), .ref (u11 9), .ref (u11 10), .ref (u11 11), .ref (u11 12), .int 0, .ref (u11 13), .ref (u11 14), .ref (u11 15), .ref (u11 16), .ref (u11 17), .ref (u11 18), .int 0, .ref (u11 19), .int 0, .int 0, .int 0, .ref (u11 20), .int 0, .int 0, .ref (u11 21), .int 0, .ref (u11 60), .ref (u11 22), .ref (u11 23), .ref (u11 24), .ref (u11 61), .ref (u11 25), .ref (u11 26), .ref (u11 62), .ref (u11 63), .ref (u11 64), .ref (u11 27), .ref (u11 28), .ref (u11 29), .ref (u11 30), .ref (u11 31), .ref (u11 32), .ref (u11 33), .ref (u11 34), .ref (u11 35), .ref (u11 36), .ref (u11 37), .ref (u11 38), .ref (u11 65), .int 0, .int 0, .int 0, .int 0, .int 0, .long 0, .int 0, .int 0, .int 0, .int 0, .int 0, .int (-1), .int 0, .ref (u11 39), .ref (u11 40), .ref (u11 41), .ref (u11 42), .ref (u11 43), .int 0, .int 0, .ref (u11 44), .ref (u11 45), .ref (u11 46), .ref (u11 47), .ref (u11 48), .ref (u11 49), .ref (u11 50), .ref (u11 51), .int 0, .int 0, .int 0, .int 0, .ref (u11 52), .ref (u11 53), .int 0, .ref (u11 54), .ref (u11 55), .ref (u11 56), .ref (u11 57), .ref (u11 58), .ref (u11 59)]))]) hP [0, 8, 97] rfl
      replace hD := hD.sub (ws' := [(q1, .inr (11, [.ref (u3 0), .ref (u3 7), .ref (u3 16), .ref (u3 17), .ref (u3 24), .ref (u3 27), .ref (u3 30), .ref (u3 33), .ref (u3 62), .ref (u3 77), .ref (u3 50)])), (u3 7, .inr (4, [.ref (u3 0), .ref (u3 8), .ref (u3 9), .ref (u3 10), .ref (u3 11), .ref (u3 12), .ref (u3 13), .ref (u3 14), .ref (u3 15), .int 0])), (q9, .inr (12, [.int 0, .int 4, .int 4, .ref (u11 0), .ref (u11 1), .ref (u11 2), .ref (u11 3), .int 0, .ref (u11 4), .ref (u11 5), .int 0, .ref (u11 6), .ref (u11 7), .ref (u11 8), .ref (u11 9), .ref (u11 10), .ref (u11 11), .ref (u11 12), .int 0, .ref (u11 13), .ref (u11 14), .ref (u11 15), .ref (u11 16), .ref (u11 17), .ref (u11 18), .int 0, .ref (u11 19), .int 0, .int 0, .int 0, .ref (u11 20), .int 0, .int 0, .ref (u11 21), .int 0, .ref (u11 60), .ref (u11 22), .ref (u11 23), .ref (u11 24), .ref (u11 61), .ref (u11 25), .ref (u11 26), .ref (u11 62), .ref (u11 63), .ref (u11 64), .ref (u11 27), .ref (u11 28), .ref (u11 29), .ref (u11 30), .ref (u11 31), .ref (u11 32), .ref (u11 33), .ref (u11 34), .ref (u11 35), .ref (u11 36), .ref (u11 37), .ref (u11 38), .ref (u11 65), .int 0, .int 0, .int 0, .int 0, .int 0, .long 0, .int 0, .int 0, .int 0, .int 0, .int 0, .int (-1), .int 0, .ref (u11 39), .ref (u11 40), .ref (u11 41), .ref (u11 42), .ref (u11 43), .int 0, .int 0, .ref (u11 44), .ref (u11 45), .ref (u11 46), .ref (u11 47), .ref (u11 48), .ref (u11 49), .ref (u11 50), .ref (u11 51), .int 0, .int 0, .int 0, .int 0, .ref (u11 52), .ref (u11 53), .int 0, .ref (u11 54), .ref (u11 55), .ref (u11 56), .ref (u11 57), .ref (u11 58), .ref (u11 59)]))]) [0, 8, 97] rfl rfl
      refine lv_pc (q := 639) rfl ?_
      refine lv_aload_n hx hb dL_law_639 rfl (lv_at hl 2 rfl) ?_
      refine lv_aload_n hx hb dL_law_640 rfl (lv_at hl 3 rfl) ?_
      refine lv_iload_n hx hb dL_law_641 rfl (lv_at hl 0 rfl) ?_
      refine lv_iconst (v := 1) hx hb dL_law_642 (by decide) ?_
      refine lv_iadd hx hb dL_law_643 ?_
      refine lv_fixi (y := 1) (by decide) ?_
      refine va_sld (i := 1) hx hb hX hbl hbA hS (by show ¬ (_ ∨ _); decide) dL_law_644 ?_
      refine lv_fixi (y := (xs 1)) rfl ?_
      refine lv_pc (q := 645) rfl ?_
      refine lv_aload_n hx hb dL_law_645 rfl (lv_at hl 3 rfl) ?_
      refine lv_iload_n hx hb dL_law_646 rfl (lv_at hl 0 rfl) ?_
      refine lv_iconst (v := 2) hx hb dL_law_647 (by decide) ?_
      refine lv_iadd hx hb dL_law_648 ?_
      refine lv_fixi (y := 2) (by decide) ?_
      refine va_sld (i := 2) hx hb hX hbl hbA hS (by show ¬ (_ ∨ _); decide) dL_law_649 ?_
      refine lv_fixi (y := (xs 2)) rfl ?_
      refine lv_aload_n hx hb dL_law_650 rfl (lv_at hl 3 rfl) ?_
      refine lv_pc (q := 651) rfl ?_
      refine lv_iload_n hx hb dL_law_651 rfl (lv_at hl 0 rfl) ?_
      refine lv_iconst (v := 3) hx hb dL_law_652 (by decide) ?_
      refine lv_iadd hx hb dL_law_653 ?_
      refine lv_fixi (y := 3) (by decide) ?_
      refine va_sld (i := 3) hx hb hX hbl hbA hS (by show ¬ (_ ∨ _); decide) dL_law_654 ?_
      refine lv_fixi (y := (xs 3)) rfl ?_
      refine uVi (As := [.int (xs 1), .int (xs 2), .int (xs 3)]) (rest := []) (wr := [(q9, .inr (12, [.int 0, .int 4, .int 4, .ref (u11 0), .ref (u11 1), .ref (u11 2), .ref (u11 3), .int 0, .ref (u11 4), .ref (u11 5), .int 0, .ref (u11 6), .ref (u11 7), .ref (u11 8), .ref (u11 9), .ref (u11 10), .ref (u11 11), .ref (u11 12), .int 0, .ref (u11 13), .ref (u11 14), .ref (u11 15), .ref (u11 16), .ref (u11 17), .ref (u11 18), .int 0, .ref (u11 19), .int 0, .int 0, .int 0, .ref (u11 20), .int 0, .int 0, .ref (u11 21), .int 0, .ref (u11 60), .ref (u11 22), .ref (u11 23), .ref (u11 24), .ref (u11 61), .ref (u11 25), .ref (u11 26), .ref (u11 62), .ref (u11 63), .ref (u11 64), .ref (u11 27), .ref (u11 28), .ref (u11 29), .ref (u11 30), .ref (u11 31), .ref (u11 32), .ref (u11 33), .ref (u11 34), .ref (u11 35), .ref (u11 36), .ref (u11 37), .ref (u11 38), .ref (u11 65), .int 0, .int 0, .int 0, .int 0, .int 0, .long 0, .int 0, .int 0, .int 0, .int 0, .int 0, .int (-1), .int 0, .ref (u11 39), .ref (u11 40), .ref (u11 41), .ref (u11 42), .ref (u11 43), .int 0, .int 0, .ref (u11 44), .ref (u11 45), .ref (u11 46), .ref (u11 47), .ref (u11 48), .ref (u11 49), .ref (u11 50), .ref (u11 51), .int 0, .int 0, .int 0, .int 0, .ref (u11 52), .ref (u11 53), .int 0, .ref (u11 54), .ref (u11 55), .ref (u11 56), .ref (u11 57), .ref (u11 58), .ref (u11 59)]))]) [(q1, .inr (11, [.ref (u3 0), .ref (u3 7), .ref (u3 16), .ref (u3 17), .ref (u3 24), .ref (u3 27), .ref (u3 30), .ref (u3 33), .ref (u3 62), .ref (u3 77), .ref (u3 50)])), (u3 7, .inr (4, [.ref (u3 0), .ref (u3 8), .ref (u3 9), .ref (u3 10), .ref (u3 11), .ref (u3 12), .ref (u3 13), .ref (u3 14), .ref (u3 15), .int 0]))] B hl.1 hP hD hS [0, 1] [2] rfl rfl rfl (kX11_note_70 l D K _ q1 (u3 7) (u3 0) (u3 16) (u3 17) (u3 24) (u3 27) (u3 30) (u3 33) (u3 62) (u3 77) (u3 50) (u3 8) (u3 9) (u3 10) (u3 11) (u3 12) (u3 13) (u3 14) (u3 15) (xs 1) (xs 2) (xs 3)) wd_X11_note mml_L_58 rfl rfl rfl rfl ⟨Nat.le_of_ble_eq_true rfl, Nat.le_of_ble_eq_true rfl⟩ (Nat.le_of_ble_eq_true rfl) ⟨Nat.le_of_ble_eq_true rfl, Nat.le_of_ble_eq_true rfl⟩ dL_law_655 (fun r227 u H locs hw hP hD hS => ?_)
      try dsimp only at hw
      rcases hw with ⟨rfl, w228⟩
      have hP : va_P D vwCl [(q9, .inr (12, [.int 0, .int 4, .int 4, .ref (u11 0), .ref (u11 1), .ref (u11 2), .ref (u11 3), .int 0, .ref (u11 4), .ref (u11 5), .int 0, .ref (u11 6), .ref (u11 7), .ref (u11 8), .ref (u11 9), .ref (u11 10), .ref (u11 11), .ref (u11 12), .int 0, .ref (u11 13), .ref (u11 14), .ref (u11 15), .ref (u11 16), .ref (u11 17), .ref (u11 18), .int 0, .ref (u11 19), .int 0, .int 0, .int 0, .ref (u11 20), .int 0, .int 0, .ref (u11 21), .int 0, .ref (u11 60), .ref (u11 22), .ref (u11 23), .ref (u11 24), .ref (u11 61), .ref (u11 25), .ref (u11 26), .ref (u11 62), .ref (u11 63), .ref (u11 64), .ref (u11 27), .ref (u11 28), .ref (u11 29), .ref (u11 30), .ref (u11 31), .ref (u11 32), .ref (u11 33), .ref (u11 34), .ref (u11 35), .ref (u11 36), .ref (u11 37), .ref (u11 38), .ref (u11 65), .int 0, .int 0, .int 0, .int 0, .int 0, .long 0, .int 0, .int 0, .int 0, .int 0, .int 0, .int (-1), .int 0, .ref (u11 39), .ref (u11 40), .ref (u11 41), .ref (u11 42), .ref (u11 43), .int 0, .int 0, .ref (u11 44), .ref (u11 45), .ref (u11 46), .ref (u11 47), .ref (u11 48), .ref (u11 49), .ref (u11 50), .ref (u11 51), .int 0, .int 0, .int 0, .int 0, .ref (u11 52), .ref (u11 53), .int 0, .ref (u11 54), .ref (u11 55), .ref (u11 56), .ref (u11 57), .ref (u11 58), .ref (u11 59)]))] H := hP
      have hD : va_D A [(q9, .inr (12, [.int 0, .int 4, .int 4, .ref (u11 0), .ref (u11 1), .ref (u11 2), .ref (u11 3), .int 0, .ref (u11 4), .ref (u11 5), .int 0, .ref (u11 6), .ref (u11 7), .ref (u11 8), .ref (u11 9), .ref (u11 10), .ref (u11 11), .ref (u11 12), .int 0, .ref (u11 13), .ref (u11 14), .ref (u11 15), .ref (u11 16), .ref (u11 17), .ref (u11 18), .int 0, .ref (u11 19), .int 0, .int 0, .int 0, .ref (u11 20), .int 0, .int 0, .ref (u11 21), .int 0, .ref (u11 60), .ref (u11 22), .ref (u11 23), .ref (u11 24), .ref (u11 61), .ref (u11 25), .ref (u11 26), .ref (u11 62), .ref (u11 63), .ref (u11 64), .ref (u11 27), .ref (u11 28), .ref (u11 29), .ref (u11 30), .ref (u11 31), .ref (u11 32), .ref (u11 33), .ref (u11 34), .ref (u11 35), .ref (u11 36), .ref (u11 37), .ref (u11 38), .ref (u11 65), .int 0, .int 0, .int 0, .int 0, .int 0, .long 0, .int 0, .int 0, .int 0, .int 0, .int 0, .int (-1), .int 0, .ref (u11 39), .ref (u11 40), .ref (u11 41), .ref (u11 42), .ref (u11 43), .int 0, .int 0, .ref (u11 44), .ref (u11 45), .ref (u11 46), .ref (u11 47), .ref (u11 48), .ref (u11 49), .ref (u11 50), .ref (u11 51), .int 0, .int 0, .int 0, .int 0, .ref (u11 52), .ref (u11 53), .int 0, .ref (u11 54), .ref (u11 55), .ref (u11 56), .ref (u11 57), .ref (u11 58), .ref (u11 59)]))] := hD
      refine lv_aload_n hx hb dL_law_658 rfl (lv_at hl 1 rfl) ?_
      refine lv_pc (q := 659) rfl ?_
      refine lv_aload_n hx hb dL_law_659 rfl (lv_at hl 3 rfl) ?_
      refine lv_iload_n hx hb dL_law_660 rfl (lv_at hl 0 rfl) ?_
      refine lv_iconst (v := 1) hx hb dL_law_661 (by decide) ?_
      refine lv_iadd hx hb dL_law_662 ?_
      refine lv_fixi (y := 1) (by decide) ?_
      refine va_sld (i := 1) hx hb hX hbl hbA hS (by show ¬ (_ ∨ _); decide) dL_law_663 ?_
      refine lv_fixi (y := (xs 1)) rfl ?_
      refine lv_aload_n hx hb dL_law_664 rfl (lv_at hl 3 rfl) ?_
      refine lv_pc (q := 665) rfl ?_
      refine lv_iload_n hx hb dL_law_665 rfl (lv_at hl 0 rfl) ?_
      refine lv_iconst (v := 2) hx hb dL_law_666 (by decide) ?_
      refine lv_iadd hx hb dL_law_667 ?_
      refine lv_fixi (y := 2) (by decide) ?_
      refine va_sld (i := 2) hx hb hX hbl hbA hS (by show ¬ (_ ∨ _); decide) dL_law_668 ?_
      refine lv_fixi (y := (xs 2)) rfl ?_
      refine lv_aload_n hx hb dL_law_669 rfl (lv_at hl 3 rfl) ?_
      refine lv_iload_n hx hb dL_law_670 rfl (lv_at hl 0 rfl) ?_
      refine lv_pc (q := 671) rfl ?_
      refine lv_iconst (v := 3) hx hb dL_law_671 (by decide) ?_
      refine lv_iadd hx hb dL_law_672 ?_
      refine lv_fixi (y := 3) (by decide) ?_
      refine va_sld (i := 3) hx hb hX hbl hbA hS (by show ¬ (_ ∨ _); decide) dL_law_673 ?_
      refine lv_fixi (y := (xs 3)) rfl ?_
      refine uVi (As := [.int (xs 1), .int (xs 2), .int (xs 3)]) (rest := [.int (-1)]) (wr := []) [(q9, .inr (12, [.int 0, .int 4, .int 4, .ref (u11 0), .ref (u11 1), .ref (u11 2), .ref (u11 3), .int 0, .ref (u11 4), .ref (u11 5), .int 0, .ref (u11 6), .ref (u11 7), .ref (u11 8), .ref (u11 9), .ref (u11 10), .ref (u11 11), .ref (u11 12), .int 0, .ref (u11 13), .ref (u11 14), .ref (u11 15), .ref (u11 16), .ref (u11 17), .ref (u11 18), .int 0, .ref (u11 19), .int 0, .int 0, .int 0, .ref (u11 20), .int 0, .int 0, .ref (u11 21), .int 0, .ref (u11 60), .ref (u11 22), .ref (u11 23), .ref (u11 24), .ref (u11 61), .ref (u11 25), .ref (u11 26), .ref (u11 62), .ref (u11 63), .ref (u11 64), .ref (u11 27), .ref (u11 28), .ref (u11 29), .ref (u11 30), .ref (u11 31), .ref (u11 32), .ref (u11 33), .ref (u11 34), .ref (u11 35), .ref (u11 36), .ref (u11 37), .ref (u11 38), .ref (u11 65), .int 0, .int 0, .int 0, .int 0, .int 0, .long 0, .int 0, .int 0, .int 0, .int 0, .int 0, .int (-1), .int 0, .ref (u11 39), .ref (u11 40), .ref (u11 41), .ref (u11 42), .ref (u11 43), .int 0, .int 0, .ref (u11 44), .ref (u11 45), .ref (u11 46), .ref (u11 47), .ref (u11 48), .ref (u11 49), .ref (u11 50), .ref (u11 51), .int 0, .int 0, .int 0, .int 0, .ref (u11 52), .ref (u11 53), .int 0, .ref (u11 54), .ref (u11 55), .ref (u11 56), .ref (u11 57), .ref (u11 58), .ref (u11 59)]))] B hl.1 hP hD hS [0] [] rfl rfl rfl (kX12_note_71 l D K _ q9 (u11 0) (u11 1) (u11 2) (u11 3) (u11 4) (u11 5) (u11 6) (u11 7) (u11 8) (u11 9) (u11 10) (u11 11) (u11 12) (u11 13) (u11 14) (u11 15) (u11 16) (u11 17) (u11 18) (u11 19) (u11 20) (u11 21) (u11 60) (u11 22) (u11 23) (u11 24) (u11 61) (u11 25) (u11 26) (u11 62) (u11 63) (u11 64) (u11 27) (u11 28) (u11 29) (u11 30) (u11 31) (u11 32) (u11 33) (u11 34) (u11 35) (u11 36) (u11 37) (u11 38) (u11 65) (u11 39) (u11 40) (u11 41) (u11 42) (u11 43) (u11 44) (u11 45) (u11 46) (u11 47) (u11 48) (u11 49) (u11 50) (u11 51) (u11 52) (u11 53) (u11 54) (u11 55) (u11 56) (u11 57) (u11 58) (u11 59) (xs 1) (xs 2) (xs 3)) wd_X12_note mml_L_62 rfl rfl rfl rfl ⟨Nat.le_of_ble_eq_true rfl, Nat.le_of_ble_eq_true rfl⟩ (Nat.le_of_ble_eq_true rfl) ⟨Nat.le_of_ble_eq_true rfl, Nat.le_of_ble_eq_true rfl⟩ dL_law_674 (fun r229 u H locs hw hP hD hS => ?_)
      try dsimp only at hw
      rcases hw with ⟨rfl, w230⟩
      have hP : va_P D vwCl [] H := hP
      have hD : va_D A [] := hD
      refine lv_icmp_eq (tgt := 1474) hx hb dL_law_677 (by decide) (fun _ => ?_) (fun h9 => absurd (by decide) h9)
      refine lv_iinc (v := 7) (lv' := [(3, .int 7), (2, .ref q9), (1, .ref q1), (0, .ref b)]) hx hb dL_law_1474 hl (k := 0) rfl (by decide) (by decide) rfl (fun ls hl => ?_)
      refine lv_pc (q := 1477) rfl ?_
      refine lv_goto (tgt := 18) hx hb dL_law_1477 (by decide) ?_
      refine lv_iload_n hx hb dL_law_18 rfl (lv_at hl 0 rfl) ?_
      refine lv_aload_n hx hb dL_law_19 rfl (lv_at hl 3 rfl) ?_
      refine va_slen hx hb hX hbl hbA hS dL_law_20 ?_
      refine lv_fixi (y := 7) (by decide) ?_
      refine lv_bipush (v := 7) hx hb dL_law_21 (by decide) ?_
      refine lv_isub hx hb dL_law_23 ?_
      refine lv_fixi (y := 0) (by decide) ?_
      refine lv_pc (q := 24) rfl ?_
      refine lv_icmp_gt (tgt := 1480) hx hb dL_law_24 (by decide) (fun _ => ?_) (fun h9 => absurd (by decide) h9)
      refine lv_iconst (v := 1) hx hb dL_law_1480 (by decide) ?_
      refine va_forget (fun q hq => by have h9 := hS.2.2 q hq; rw [hAe] at h9; exact h9) ?_
      refine W.widen (k := 600000) (n := 7302250) (by decide) (by decide) ?_
      exact lw_ret hx hb hr hlocks dL_law_1481
    · refine lv_fixi (y := 10) ejj ?_
      refine lv_tableIn (off := 649) (tgt := 682) hx hb dL_law_33 (by decide) (by decide) rfl (by decide) ?_
      replace hP := uSub (wc := [(q1, .inr (11, [.ref (u3 0), .ref (u3 7), .ref (u3 16), .ref (u3 17), .ref (u3 24), .ref (u3 27), .ref (u3 30), .ref (u3 33), .ref (u3 62), .ref (u3 77), .ref (u3 50)])), (u3 17, .inr (3, [.ref (u3 18), .ref (u3 19), .ref (u3 20), .ref (u3 21), .ref (u3 22), .ref (u3 23), .int 0, .int (-1), .int 1, .int 0])), (q9, .inr (12, [.int 0, .int 4, .int 4, .ref (u11 0), .ref (u11 1), .ref (u11 2), .ref (u11 3), .int 0, .ref (u11 4), .ref (u11 5), .int 0, .ref (u11 6), .ref (u11 7), .ref (u11 8), .ref (u11 9), .ref (u11 10), .ref (u11 11), .ref (u11 12), .int 0, .ref (u11 13), .ref (u11 14), .ref (u11 15), .ref (u11 16), .ref (u11 17), .ref (u11 18), .int 0, .ref (u11 19), .int 0, .int 0, .int 0, .ref (u11 20), .int 0, .int 0, .ref (u11 21), .int 0, .ref (u11 60), .ref (u11 22), .ref (u11 23), .ref (u11 24), .ref (u11 61), .ref (u11 25), .ref (u11 26), .ref (u11 62), .ref (u11 63), .ref (u11 64), .ref (u11 27), .ref (u11 28), .ref (u11 29), .ref (u11 30), .ref (u11 31), .ref (u11 32), .ref (u11 33), .ref (u11 34), .ref (u11 35), .ref (u11 36), .ref (u11 37), .ref (u11 38), .ref (u11 65), .int 0, .int 0, .int 0, .int 0, .int 0, .long 0, .int 0, .int 0, .int 0, .int 0, .int 0, .int (-1), .int 0, .ref (u11 39), .ref (u11 40), .ref (u11 41), .ref (u11 42), .ref (u11 43), .int 0, .int 0, .ref (u11 44), .ref (u11 45), .ref (u11 46), .ref (u11 47), .ref (u11 48), .ref (u11 49), .ref (u11 50), .ref (u11 51), .int 0, .int 0, .int 0, .int 0, .ref (u11 52), .ref (u11 53), .int 0, .ref (u11 54), .ref (u11 55), .ref (u11 56), .ref (u11 57), .ref (u11 58), .ref (u11 59)]))]) hP [0, 18, 97] rfl
      replace hD := hD.sub (ws' := [(q1, .inr (11, [.ref (u3 0), .ref (u3 7), .ref (u3 16), .ref (u3 17), .ref (u3 24), .ref (u3 27), .ref (u3 30), .ref (u3 33), .ref (u3 62), .ref (u3 77), .ref (u3 50)])), (u3 17, .inr (3, [.ref (u3 18), .ref (u3 19), .ref (u3 20), .ref (u3 21), .ref (u3 22), .ref (u3 23), .int 0, .int (-1), .int 1, .int 0])), (q9, .inr (12, [.int 0, .int 4, .int 4, .ref (u11 0), .ref (u11 1), .ref (u11 2), .ref (u11 3), .int 0, .ref (u11 4), .ref (u11 5), .int 0, .ref (u11 6), .ref (u11 7), .ref (u11 8), .ref (u11 9), .ref (u11 10), .ref (u11 11), .ref (u11 12), .int 0, .ref (u11 13), .ref (u11 14), .ref (u11 15), .ref (u11 16), .ref (u11 17), .ref (u11 18), .int 0, .ref (u11 19), .int 0, .int 0, .int 0, .ref (u11 20), .int 0, .int 0, .ref (u11 21), .int 0, .ref (u11 60), .ref (u11 22), .ref (u11 23), .ref (u11 24), .ref (u11 61), .ref (u11 25), .ref (u11 26), .ref (u11 62), .ref (u11 63), .ref (u11 64), .ref (u11 27), .ref (u11 28), .ref (u11 29), .ref (u11 30), .ref (u11 31), .ref (u11 32), .ref (u11 33), .ref (u11 34), .ref (u11 35), .ref (u11 36), .ref (u11 37), .ref (u11 38), .ref (u11 65), .int 0, .int 0, .int 0, .int 0, .int 0, .long 0, .int 0, .int 0, .int 0, .int 0, .int 0, .int (-1), .int 0, .ref (u11 39), .ref (u11 40), .ref (u11 41), .ref (u11 42), .ref (u11 43), .int 0, .int 0, .ref (u11 44), .ref (u11 45), .ref (u11 46), .ref (u11 47), .ref (u11 48), .ref (u11 49), .ref (u11 50), .ref (u11 51), .int 0, .int 0, .int 0, .int 0, .ref (u11 52), .ref (u11 53), .int 0, .ref (u11 54), .ref (u11 55), .ref (u11 56), .ref (u11 57), .ref (u11 58), .ref (u11 59)]))]) [0, 18, 97] rfl rfl
      refine lv_pc (q := 682) rfl ?_
      refine lv_aload_n hx hb dL_law_682 rfl (lv_at hl 2 rfl) ?_
      refine lv_aload_n hx hb dL_law_683 rfl (lv_at hl 3 rfl) ?_
      refine lv_iload_n hx hb dL_law_684 rfl (lv_at hl 0 rfl) ?_
      refine lv_iconst (v := 1) hx hb dL_law_685 (by decide) ?_
      refine lv_iadd hx hb dL_law_686 ?_
      refine lv_fixi (y := 1) (by decide) ?_
      refine va_sld (i := 1) hx hb hX hbl hbA hS (by show ¬ (_ ∨ _); decide) dL_law_687 ?_
      refine lv_fixi (y := (xs 1)) rfl ?_
      refine lv_pc (q := 688) rfl ?_
      refine uVi (As := [.int (xs 1)]) (rest := []) (wr := [(q9, .inr (12, [.int 0, .int 4, .int 4, .ref (u11 0), .ref (u11 1), .ref (u11 2), .ref (u11 3), .int 0, .ref (u11 4), .ref (u11 5), .int 0, .ref (u11 6), .ref (u11 7), .ref (u11 8), .ref (u11 9), .ref (u11 10), .ref (u11 11), .ref (u11 12), .int 0, .ref (u11 13), .ref (u11 14), .ref (u11 15), .ref (u11 16), .ref (u11 17), .ref (u11 18), .int 0, .ref (u11 19), .int 0, .int 0, .int 0, .ref (u11 20), .int 0, .int 0, .ref (u11 21), .int 0, .ref (u11 60), .ref (u11 22), .ref (u11 23), .ref (u11 24), .ref (u11 61), .ref (u11 25), .ref (u11 26), .ref (u11 62), .ref (u11 63), .ref (u11 64), .ref (u11 27), .ref (u11 28), .ref (u11 29), .ref (u11 30), .ref (u11 31), .ref (u11 32), .ref (u11 33), .ref (u11 34), .ref (u11 35), .ref (u11 36), .ref (u11 37), .ref (u11 38), .ref (u11 65), .int 0, .int 0, .int 0, .int 0, .int 0, .long 0, .int 0, .int 0, .int 0, .int 0, .int 0, .int (-1), .int 0, .ref (u11 39), .ref (u11 40), .ref (u11 41), .ref (u11 42), .ref (u11 43), .int 0, .int 0, .ref (u11 44), .ref (u11 45), .ref (u11 46), .ref (u11 47), .ref (u11 48), .ref (u11 49), .ref (u11 50), .ref (u11 51), .int 0, .int 0, .int 0, .int 0, .ref (u11 52), .ref (u11 53), .int 0, .ref (u11 54), .ref (u11 55), .ref (u11 56), .ref (u11 57), .ref (u11 58), .ref (u11 59)]))]) [(q1, .inr (11, [.ref (u3 0), .ref (u3 7), .ref (u3 16), .ref (u3 17), .ref (u3 24), .ref (u3 27), .ref (u3 30), .ref (u3 33), .ref (u3 62), .ref (u3 77), .ref (u3 50)])), (u3 17, .inr (3, [.ref (u3 18), .ref (u3 19), .ref (u3 20), .ref (u3 21), .ref (u3 22), .ref (u3 23), .int 0, .int (-1), .int 1, .int 0]))] B hl.1 hP hD hS [0, 1] [2] rfl rfl rfl (kX11_strike_72 l D K _ q1 (u3 17) (u3 0) (u3 7) (u3 16) (u3 24) (u3 27) (u3 30) (u3 33) (u3 62) (u3 77) (u3 50) (u3 18) (u3 19) (u3 20) (u3 21) (u3 22) (u3 23) (xs 1)) wd_X11_strike mml_L_63 rfl rfl rfl rfl ⟨Nat.le_of_ble_eq_true rfl, Nat.le_of_ble_eq_true rfl⟩ (Nat.le_of_ble_eq_true rfl) ⟨Nat.le_of_ble_eq_true rfl, Nat.le_of_ble_eq_true rfl⟩ dL_law_688 (fun r231 u H locs hw hP hD hS => ?_)
      try dsimp only at hw
      rcases hw with ⟨rfl, w232⟩
      have hP : va_P D vwCl [(q9, .inr (12, [.int 0, .int 4, .int 4, .ref (u11 0), .ref (u11 1), .ref (u11 2), .ref (u11 3), .int 0, .ref (u11 4), .ref (u11 5), .int 0, .ref (u11 6), .ref (u11 7), .ref (u11 8), .ref (u11 9), .ref (u11 10), .ref (u11 11), .ref (u11 12), .int 0, .ref (u11 13), .ref (u11 14), .ref (u11 15), .ref (u11 16), .ref (u11 17), .ref (u11 18), .int 0, .ref (u11 19), .int 0, .int 0, .int 0, .ref (u11 20), .int 0, .int 0, .ref (u11 21), .int 0, .ref (u11 60), .ref (u11 22), .ref (u11 23), .ref (u11 24), .ref (u11 61), .ref (u11 25), .ref (u11 26), .ref (u11 62), .ref (u11 63), .ref (u11 64), .ref (u11 27), .ref (u11 28), .ref (u11 29), .ref (u11 30), .ref (u11 31), .ref (u11 32), .ref (u11 33), .ref (u11 34), .ref (u11 35), .ref (u11 36), .ref (u11 37), .ref (u11 38), .ref (u11 65), .int 0, .int 0, .int 0, .int 0, .int 0, .long 0, .int 0, .int 0, .int 0, .int 0, .int 0, .int (-1), .int 0, .ref (u11 39), .ref (u11 40), .ref (u11 41), .ref (u11 42), .ref (u11 43), .int 0, .int 0, .ref (u11 44), .ref (u11 45), .ref (u11 46), .ref (u11 47), .ref (u11 48), .ref (u11 49), .ref (u11 50), .ref (u11 51), .int 0, .int 0, .int 0, .int 0, .ref (u11 52), .ref (u11 53), .int 0, .ref (u11 54), .ref (u11 55), .ref (u11 56), .ref (u11 57), .ref (u11 58), .ref (u11 59)]))] H := hP
      have hD : va_D A [(q9, .inr (12, [.int 0, .int 4, .int 4, .ref (u11 0), .ref (u11 1), .ref (u11 2), .ref (u11 3), .int 0, .ref (u11 4), .ref (u11 5), .int 0, .ref (u11 6), .ref (u11 7), .ref (u11 8), .ref (u11 9), .ref (u11 10), .ref (u11 11), .ref (u11 12), .int 0, .ref (u11 13), .ref (u11 14), .ref (u11 15), .ref (u11 16), .ref (u11 17), .ref (u11 18), .int 0, .ref (u11 19), .int 0, .int 0, .int 0, .ref (u11 20), .int 0, .int 0, .ref (u11 21), .int 0, .ref (u11 60), .ref (u11 22), .ref (u11 23), .ref (u11 24), .ref (u11 61), .ref (u11 25), .ref (u11 26), .ref (u11 62), .ref (u11 63), .ref (u11 64), .ref (u11 27), .ref (u11 28), .ref (u11 29), .ref (u11 30), .ref (u11 31), .ref (u11 32), .ref (u11 33), .ref (u11 34), .ref (u11 35), .ref (u11 36), .ref (u11 37), .ref (u11 38), .ref (u11 65), .int 0, .int 0, .int 0, .int 0, .int 0, .long 0, .int 0, .int 0, .int 0, .int 0, .int 0, .int (-1), .int 0, .ref (u11 39), .ref (u11 40), .ref (u11 41), .ref (u11 42), .ref (u11 43), .int 0, .int 0, .ref (u11 44), .ref (u11 45), .ref (u11 46), .ref (u11 47), .ref (u11 48), .ref (u11 49), .ref (u11 50), .ref (u11 51), .int 0, .int 0, .int 0, .int 0, .ref (u11 52), .ref (u11 53), .int 0, .ref (u11 54), .ref (u11 55), .ref (u11 56), .ref (u11 57), .ref (u11 58), .ref (u11 59)]))] := hD
      refine lv_aload_n hx hb dL_law_691 rfl (lv_at hl 1 rfl) ?_
      refine lv_aload_n hx hb dL_law_692 rfl (lv_at hl 3 rfl) ?_
      refine lv_iload_n hx hb dL_law_693 rfl (lv_at hl 0 rfl) ?_
      refine lv_iconst (v := 1) hx hb dL_law_694 (by decide) ?_
      refine lv_iadd hx hb dL_law_695 ?_
      refine lv_fixi (y := 1) (by decide) ?_
      refine lv_pc (q := 696) rfl ?_
      refine va_sld (i := 1) hx hb hX hbl hbA hS (by show ¬ (_ ∨ _); decide) dL_law_696 ?_
      refine lv_fixi (y := (xs 1)) rfl ?_
      refine uVi (As := [.int (xs 1)]) (rest := [.int (-1)]) (wr := []) [(q9, .inr (12, [.int 0, .int 4, .int 4, .ref (u11 0), .ref (u11 1), .ref (u11 2), .ref (u11 3), .int 0, .ref (u11 4), .ref (u11 5), .int 0, .ref (u11 6), .ref (u11 7), .ref (u11 8), .ref (u11 9), .ref (u11 10), .ref (u11 11), .ref (u11 12), .int 0, .ref (u11 13), .ref (u11 14), .ref (u11 15), .ref (u11 16), .ref (u11 17), .ref (u11 18), .int 0, .ref (u11 19), .int 0, .int 0, .int 0, .ref (u11 20), .int 0, .int 0, .ref (u11 21), .int 0, .ref (u11 60), .ref (u11 22), .ref (u11 23), .ref (u11 24), .ref (u11 61), .ref (u11 25), .ref (u11 26), .ref (u11 62), .ref (u11 63), .ref (u11 64), .ref (u11 27), .ref (u11 28), .ref (u11 29), .ref (u11 30), .ref (u11 31), .ref (u11 32), .ref (u11 33), .ref (u11 34), .ref (u11 35), .ref (u11 36), .ref (u11 37), .ref (u11 38), .ref (u11 65), .int 0, .int 0, .int 0, .int 0, .int 0, .long 0, .int 0, .int 0, .int 0, .int 0, .int 0, .int (-1), .int 0, .ref (u11 39), .ref (u11 40), .ref (u11 41), .ref (u11 42), .ref (u11 43), .int 0, .int 0, .ref (u11 44), .ref (u11 45), .ref (u11 46), .ref (u11 47), .ref (u11 48), .ref (u11 49), .ref (u11 50), .ref (u11 51), .int 0, .int 0, .int 0, .int 0, .ref (u11 52), .ref (u11 53), .int 0, .ref (u11 54), .ref (u11 55), .ref (u11 56), .ref (u11 57), .ref (u11 58), .ref (u11 59)]))] B hl.1 hP hD hS [0] [] rfl rfl rfl (kX12_strike_73 l D K _ q9 (u11 0) (u11 1) (u11 2) (u11 3) (u11 4) (u11 5) (u11 6) (u11 7) (u11 8) (u11 9) (u11 10) (u11 11) (u11 12) (u11 13) (u11 14) (u11 15) (u11 16) (u11 17) (u11 18) (u11 19) (u11 20) (u11 21) (u11 60) (u11 22) (u11 23) (u11 24) (u11 61) (u11 25) (u11 26) (u11 62) (u11 63) (u11 64) (u11 27) (u11 28) (u11 29) (u11 30) (u11 31) (u11 32) (u11 33) (u11 34) (u11 35) (u11 36) (u11 37) (u11 38) (u11 65) (u11 39) (u11 40) (u11 41) (u11 42) (u11 43) (u11 44) (u11 45) (u11 46) (u11 47) (u11 48) (u11 49) (u11 50) (u11 51) (u11 52) (u11 53) (u11 54) (u11 55) (u11 56) (u11 57) (u11 58) (u11 59) (xs 1)) wd_X12_strike mml_L_67 rfl rfl rfl rfl ⟨Nat.le_of_ble_eq_true rfl, Nat.le_of_ble_eq_true rfl⟩ (Nat.le_of_ble_eq_true rfl) ⟨Nat.le_of_ble_eq_true rfl, Nat.le_of_ble_eq_true rfl⟩ dL_law_697 (fun r233 u H locs hw hP hD hS => ?_)
      try dsimp only at hw
      rcases hw with ⟨rfl, w234⟩
      have hP : va_P D vwCl [] H := hP
      have hD : va_D A [] := hD
      refine lv_icmp_eq (tgt := 1474) hx hb dL_law_700 (by decide) (fun _ => ?_) (fun h9 => absurd (by decide) h9)
      refine lv_iinc (v := 7) (lv' := [(3, .int 7), (2, .ref q9), (1, .ref q1), (0, .ref b)]) hx hb dL_law_1474 hl (k := 0) rfl (by decide) (by decide) rfl (fun ls hl => ?_)
      refine lv_goto (tgt := 18) hx hb dL_law_1477 (by decide) ?_
      refine lv_iload_n hx hb dL_law_18 rfl (lv_at hl 0 rfl) ?_
      refine lv_pc (q := 19) rfl ?_
      refine lv_aload_n hx hb dL_law_19 rfl (lv_at hl 3 rfl) ?_
      refine va_slen hx hb hX hbl hbA hS dL_law_20 ?_
      refine lv_fixi (y := 7) (by decide) ?_
      refine lv_bipush (v := 7) hx hb dL_law_21 (by decide) ?_
      refine lv_isub hx hb dL_law_23 ?_
      refine lv_fixi (y := 0) (by decide) ?_
      refine lv_icmp_gt (tgt := 1480) hx hb dL_law_24 (by decide) (fun _ => ?_) (fun h9 => absurd (by decide) h9)
      refine lv_iconst (v := 1) hx hb dL_law_1480 (by decide) ?_
      refine lv_pc (q := 1481) rfl ?_
      refine va_forget (fun q hq => by have h9 := hS.2.2 q hq; rw [hAe] at h9; exact h9) ?_
      refine W.widen (k := 600000) (n := 7302250) (by decide) (by decide) ?_
      exact lw_ret hx hb hr hlocks dL_law_1481
    · refine lv_fixi (y := 11) ejj ?_
      refine lv_tableIn (off := 672) (tgt := 705) hx hb dL_law_33 (by decide) (by decide) rfl (by decide) ?_
      replace hP := uSub (wc := [(q1, .inr (11, [.ref (u3 0), .ref (u3 7), .ref (u3 16), .ref (u3 17), .ref (u3 24), .ref (u3 27), .ref (u3 30), .ref (u3 33), .ref (u3 62), .ref (u3 77), .ref (u3 50)])), (u3 7, .inr (4, [.ref (u3 0), .ref (u3 8), .ref (u3 9), .ref (u3 10), .ref (u3 11), .ref (u3 12), .ref (u3 13), .ref (u3 14), .ref (u3 15), .int 0])), (q9, .inr (12, [.int 0, .int 4, .int 4, .ref (u11 0), .ref (u11 1), .ref (u11 2), .ref (u11 3), .int 0, .ref (u11 4), .ref (u11 5), .int 0, .ref (u11 6), .ref (u11 7), .ref (u11 8), .ref (u11 9), .ref (u11 10), .ref (u11 11), .ref (u11 12), .int 0, .ref (u11 13), .ref (u11 14), .ref (u11 15), .ref (u11 16), .ref (u11 17), .ref (u11 18), .int 0, .ref (u11 19), .int 0, .int 0, .int 0, .ref (u11 20), .int 0, .int 0, .ref (u11 21), .int 0, .ref (u11 60), .ref (u11 22), .ref (u11 23), .ref (u11 24), .ref (u11 61), .ref (u11 25), .ref (u11 26), .ref (u11 62), .ref (u11 63), .ref (u11 64), .ref (u11 27), .ref (u11 28), .ref (u11 29), .ref (u11 30), .ref (u11 31), .ref (u11 32), .ref (u11 33), .ref (u11 34), .ref (u11 35), .ref (u11 36), .ref (u11 37), .ref (u11 38), .ref (u11 65), .int 0, .int 0, .int 0, .int 0, .int 0, .long 0, .int 0, .int 0, .int 0, .int 0, .int 0, .int (-1), .int 0, .ref (u11 39), .ref (u11 40), .ref (u11 41), .ref (u11 42), .ref (u11 43), .int 0, .int 0, .ref (u11 44), .ref (u11 45), .ref (u11 46), .ref (u11 47), .ref (u11 48), .ref (u11 49), .ref (u11 50), .ref (u11 51), .int 0, .int 0, .int 0, .int 0, .ref (u11 52), .ref (u11 53), .int 0, .ref (u11 54), .ref (u11 55), .ref (u11 56), .ref (u11 57), .ref (u11 58), .ref (u11 59)]))]) hP [0, 8, 97] rfl
      replace hD := hD.sub (ws' := [(q1, .inr (11, [.ref (u3 0), .ref (u3 7), .ref (u3 16), .ref (u3 17), .ref (u3 24), .ref (u3 27), .ref (u3 30), .ref (u3 33), .ref (u3 62), .ref (u3 77), .ref (u3 50)])), (u3 7, .inr (4, [.ref (u3 0), .ref (u3 8), .ref (u3 9), .ref (u3 10), .ref (u3 11), .ref (u3 12), .ref (u3 13), .ref (u3 14), .ref (u3 15), .int 0])), (q9, .inr (12, [.int 0, .int 4, .int 4, .ref (u11 0), .ref (u11 1), .ref (u11 2), .ref (u11 3), .int 0, .ref (u11 4), .ref (u11 5), .int 0, .ref (u11 6), .ref (u11 7), .ref (u11 8), .ref (u11 9), .ref (u11 10), .ref (u11 11), .ref (u11 12), .int 0, .ref (u11 13), .ref (u11 14), .ref (u11 15), .ref (u11 16), .ref (u11 17), .ref (u11 18), .int 0, .ref (u11 19), .int 0, .int 0, .int 0, .ref (u11 20), .int 0, .int 0, .ref (u11 21), .int 0, .ref (u11 60), .ref (u11 22), .ref (u11 23), .ref (u11 24), .ref (u11 61), .ref (u11 25), .ref (u11 26), .ref (u11 62), .ref (u11 63), .ref (u11 64), .ref (u11 27), .ref (u11 28), .ref (u11 29), .ref (u11 30), .ref (u11 31), .ref (u11 32), .ref (u11 33), .ref (u11 34), .ref (u11 35), .ref (u11 36), .ref (u11 37), .ref (u11 38), .ref (u11 65), .int 0, .int 0, .int 0, .int 0, .int 0, .long 0, .int 0, .int 0, .int 0, .int 0, .int 0, .int (-1), .int 0, .ref (u11 39), .ref (u11 40), .ref (u11 41), .ref (u11 42), .ref (u11 43), .int 0, .int 0, .ref (u11 44), .ref (u11 45), .ref (u11 46), .ref (u11 47), .ref (u11 48), .ref (u11 49), .ref (u11 50), .ref (u11 51), .int 0, .int 0, .int 0, .int 0, .ref (u11 52), .ref (u11 53), .int 0, .ref (u11 54), .ref (u11 55), .ref (u11 56), .ref (u11 57), .ref (u11 58), .ref (u11 59)]))]) [0, 8, 97] rfl rfl
      refine lv_pc (q := 705) rfl ?_
      refine lv_aload_n hx hb dL_law_705 rfl (lv_at hl 2 rfl) ?_
      refine lv_aload_n hx hb dL_law_706 rfl (lv_at hl 3 rfl) ?_
      refine lv_iload_n hx hb dL_law_707 rfl (lv_at hl 0 rfl) ?_
      refine lv_iconst (v := 1) hx hb dL_law_708 (by decide) ?_
      refine lv_iadd hx hb dL_law_709 ?_
      refine lv_fixi (y := 1) (by decide) ?_
      refine va_sld (i := 1) hx hb hX hbl hbA hS (by show ¬ (_ ∨ _); decide) dL_law_710 ?_
      refine lv_fixi (y := (xs 1)) rfl ?_
      refine lv_pc (q := 711) rfl ?_
      refine lv_aload_n hx hb dL_law_711 rfl (lv_at hl 3 rfl) ?_
      refine lv_iload_n hx hb dL_law_712 rfl (lv_at hl 0 rfl) ?_
      refine lv_iconst (v := 2) hx hb dL_law_713 (by decide) ?_
      refine lv_iadd hx hb dL_law_714 ?_
      refine lv_fixi (y := 2) (by decide) ?_
      refine va_sld (i := 2) hx hb hX hbl hbA hS (by show ¬ (_ ∨ _); decide) dL_law_715 ?_
      refine lv_fixi (y := (xs 2)) rfl ?_
      refine lv_aload_n hx hb dL_law_716 rfl (lv_at hl 3 rfl) ?_
      refine lv_pc (q := 717) rfl ?_
      refine lv_iload_n hx hb dL_law_717 rfl (lv_at hl 0 rfl) ?_
      refine lv_iconst (v := 3) hx hb dL_law_718 (by decide) ?_
      refine lv_iadd hx hb dL_law_719 ?_
      refine lv_fixi (y := 3) (by decide) ?_
      refine va_sld (i := 3) hx hb hX hbl hbA hS (by show ¬ (_ ∨ _); decide) dL_law_720 ?_
      refine lv_fixi (y := (xs 3)) rfl ?_
      refine uVi (As := [.int (xs 1), .int (xs 2), .int (xs 3)]) (rest := []) (wr := [(q9, .inr (12, [.int 0, .int 4, .int 4, .ref (u11 0), .ref (u11 1), .ref (u11 2), .ref (u11 3), .int 0, .ref (u11 4), .ref (u11 5), .int 0, .ref (u11 6), .ref (u11 7), .ref (u11 8), .ref (u11 9), .ref (u11 10), .ref (u11 11), .ref (u11 12), .int 0, .ref (u11 13), .ref (u11 14), .ref (u11 15), .ref (u11 16), .ref (u11 17), .ref (u11 18), .int 0, .ref (u11 19), .int 0, .int 0, .int 0, .ref (u11 20), .int 0, .int 0, .ref (u11 21), .int 0, .ref (u11 60), .ref (u11 22), .ref (u11 23), .ref (u11 24), .ref (u11 61), .ref (u11 25), .ref (u11 26), .ref (u11 62), .ref (u11 63), .ref (u11 64), .ref (u11 27), .ref (u11 28), .ref (u11 29), .ref (u11 30), .ref (u11 31), .ref (u11 32), .ref (u11 33), .ref (u11 34), .ref (u11 35), .ref (u11 36), .ref (u11 37), .ref (u11 38), .ref (u11 65), .int 0, .int 0, .int 0, .int 0, .int 0, .long 0, .int 0, .int 0, .int 0, .int 0, .int 0, .int (-1), .int 0, .ref (u11 39), .ref (u11 40), .ref (u11 41), .ref (u11 42), .ref (u11 43), .int 0, .int 0, .ref (u11 44), .ref (u11 45), .ref (u11 46), .ref (u11 47), .ref (u11 48), .ref (u11 49), .ref (u11 50), .ref (u11 51), .int 0, .int 0, .int 0, .int 0, .ref (u11 52), .ref (u11 53), .int 0, .ref (u11 54), .ref (u11 55), .ref (u11 56), .ref (u11 57), .ref (u11 58), .ref (u11 59)]))]) [(q1, .inr (11, [.ref (u3 0), .ref (u3 7), .ref (u3 16), .ref (u3 17), .ref (u3 24), .ref (u3 27), .ref (u3 30), .ref (u3 33), .ref (u3 62), .ref (u3 77), .ref (u3 50)])), (u3 7, .inr (4, [.ref (u3 0), .ref (u3 8), .ref (u3 9), .ref (u3 10), .ref (u3 11), .ref (u3 12), .ref (u3 13), .ref (u3 14), .ref (u3 15), .int 0]))] B hl.1 hP hD hS [0, 1] [2] rfl rfl rfl (kX11_years_74 l D K _ q1 (u3 7) (u3 0) (u3 16) (u3 17) (u3 24) (u3 27) (u3 30) (u3 33) (u3 62) (u3 77) (u3 50) (u3 8) (u3 9) (u3 10) (u3 11) (u3 12) (u3 13) (u3 14) (u3 15) (xs 1) (xs 2) (xs 3)) wd_X11_years mml_L_68 rfl rfl rfl rfl ⟨Nat.le_of_ble_eq_true rfl, Nat.le_of_ble_eq_true rfl⟩ (Nat.le_of_ble_eq_true rfl) ⟨Nat.le_of_ble_eq_true rfl, Nat.le_of_ble_eq_true rfl⟩ dL_law_721 (fun r235 u H locs hw hP hD hS => ?_)
      try dsimp only at hw
      rcases hw with ⟨rfl, w236⟩
      have hP : va_P D vwCl [(q9, .inr (12, [.int 0, .int 4, .int 4, .ref (u11 0), .ref (u11 1), .ref (u11 2), .ref (u11 3), .int 0, .ref (u11 4), .ref (u11 5), .int 0, .ref (u11 6), .ref (u11 7), .ref (u11 8), .ref (u11 9), .ref (u11 10), .ref (u11 11), .ref (u11 12), .int 0, .ref (u11 13), .ref (u11 14), .ref (u11 15), .ref (u11 16), .ref (u11 17), .ref (u11 18), .int 0, .ref (u11 19), .int 0, .int 0, .int 0, .ref (u11 20), .int 0, .int 0, .ref (u11 21), .int 0, .ref (u11 60), .ref (u11 22), .ref (u11 23), .ref (u11 24), .ref (u11 61), .ref (u11 25), .ref (u11 26), .ref (u11 62), .ref (u11 63), .ref (u11 64), .ref (u11 27), .ref (u11 28), .ref (u11 29), .ref (u11 30), .ref (u11 31), .ref (u11 32), .ref (u11 33), .ref (u11 34), .ref (u11 35), .ref (u11 36), .ref (u11 37), .ref (u11 38), .ref (u11 65), .int 0, .int 0, .int 0, .int 0, .int 0, .long 0, .int 0, .int 0, .int 0, .int 0, .int 0, .int (-1), .int 0, .ref (u11 39), .ref (u11 40), .ref (u11 41), .ref (u11 42), .ref (u11 43), .int 0, .int 0, .ref (u11 44), .ref (u11 45), .ref (u11 46), .ref (u11 47), .ref (u11 48), .ref (u11 49), .ref (u11 50), .ref (u11 51), .int 0, .int 0, .int 0, .int 0, .ref (u11 52), .ref (u11 53), .int 0, .ref (u11 54), .ref (u11 55), .ref (u11 56), .ref (u11 57), .ref (u11 58), .ref (u11 59)]))] H := hP
      have hD : va_D A [(q9, .inr (12, [.int 0, .int 4, .int 4, .ref (u11 0), .ref (u11 1), .ref (u11 2), .ref (u11 3), .int 0, .ref (u11 4), .ref (u11 5), .int 0, .ref (u11 6), .ref (u11 7), .ref (u11 8), .ref (u11 9), .ref (u11 10), .ref (u11 11), .ref (u11 12), .int 0, .ref (u11 13), .ref (u11 14), .ref (u11 15), .ref (u11 16), .ref (u11 17), .ref (u11 18), .int 0, .ref (u11 19), .int 0, .int 0, .int 0, .ref (u11 20), .int 0, .int 0, .ref (u11 21), .int 0, .ref (u11 60), .ref (u11 22), .ref (u11 23), .ref (u11 24), .ref (u11 61), .ref (u11 25), .ref (u11 26), .ref (u11 62), .ref (u11 63), .ref (u11 64), .ref (u11 27), .ref (u11 28), .ref (u11 29), .ref (u11 30), .ref (u11 31), .ref (u11 32), .ref (u11 33), .ref (u11 34), .ref (u11 35), .ref (u11 36), .ref (u11 37), .ref (u11 38), .ref (u11 65), .int 0, .int 0, .int 0, .int 0, .int 0, .long 0, .int 0, .int 0, .int 0, .int 0, .int 0, .int (-1), .int 0, .ref (u11 39), .ref (u11 40), .ref (u11 41), .ref (u11 42), .ref (u11 43), .int 0, .int 0, .ref (u11 44), .ref (u11 45), .ref (u11 46), .ref (u11 47), .ref (u11 48), .ref (u11 49), .ref (u11 50), .ref (u11 51), .int 0, .int 0, .int 0, .int 0, .ref (u11 52), .ref (u11 53), .int 0, .ref (u11 54), .ref (u11 55), .ref (u11 56), .ref (u11 57), .ref (u11 58), .ref (u11 59)]))] := hD
      refine lv_aload_n hx hb dL_law_724 rfl (lv_at hl 1 rfl) ?_
      refine lv_pc (q := 725) rfl ?_
      refine lv_aload_n hx hb dL_law_725 rfl (lv_at hl 3 rfl) ?_
      refine lv_iload_n hx hb dL_law_726 rfl (lv_at hl 0 rfl) ?_
      refine lv_iconst (v := 1) hx hb dL_law_727 (by decide) ?_
      refine lv_iadd hx hb dL_law_728 ?_
      refine lv_fixi (y := 1) (by decide) ?_
      refine va_sld (i := 1) hx hb hX hbl hbA hS (by show ¬ (_ ∨ _); decide) dL_law_729 ?_
      refine lv_fixi (y := (xs 1)) rfl ?_
      refine lv_aload_n hx hb dL_law_730 rfl (lv_at hl 3 rfl) ?_
      refine lv_pc (q := 731) rfl ?_
      refine lv_iload_n hx hb dL_law_731 rfl (lv_at hl 0 rfl) ?_
      refine lv_iconst (v := 2) hx hb dL_law_732 (by decide) ?_
      refine lv_iadd hx hb dL_law_733 ?_
      refine lv_fixi (y := 2) (by decide) ?_
      refine va_sld (i := 2) hx hb hX hbl hbA hS (by show ¬ (_ ∨ _); decide) dL_law_734 ?_
      refine lv_fixi (y := (xs 2)) rfl ?_
      refine lv_aload_n hx hb dL_law_735 rfl (lv_at hl 3 rfl) ?_
      refine lv_iload_n hx hb dL_law_736 rfl (lv_at hl 0 rfl) ?_
      refine lv_pc (q := 737) rfl ?_
      refine lv_iconst (v := 3) hx hb dL_law_737 (by decide) ?_
      refine lv_iadd hx hb dL_law_738 ?_
      refine lv_fixi (y := 3) (by decide) ?_
      refine va_sld (i := 3) hx hb hX hbl hbA hS (by show ¬ (_ ∨ _); decide) dL_law_739 ?_
      refine lv_fixi (y := (xs 3)) rfl ?_
      refine uVi (As := [.int (xs 1), .int (xs 2), .int (xs 3)]) (rest := [.int (-1)]) (wr := []) [(q9, .inr (12, [.int 0, .int 4, .int 4, .ref (u11 0), .ref (u11 1), .ref (u11 2), .ref (u11 3), .int 0, .ref (u11 4), .ref (u11 5), .int 0, .ref (u11 6), .ref (u11 7), .ref (u11 8), .ref (u11 9), .ref (u11 10), .ref (u11 11), .ref (u11 12), .int 0, .ref (u11 13), .ref (u11 14), .ref (u11 15), .ref (u11 16), .ref (u11 17), .ref (u11 18), .int 0, .ref (u11 19), .int 0, .int 0, .int 0, .ref (u11 20), .int 0, .int 0, .ref (u11 21), .int 0, .ref (u11 60), .ref (u11 22), .ref (u11 23), .ref (u11 24), .ref (u11 61), .ref (u11 25), .ref (u11 26), .ref (u11 62), .ref (u11 63), .ref (u11 64), .ref (u11 27), .ref (u11 28), .ref (u11 29), .ref (u11 30), .ref (u11 31), .ref (u11 32), .ref (u11 33), .ref (u11 34), .ref (u11 35), .ref (u11 36), .ref (u11 37), .ref (u11 38), .ref (u11 65), .int 0, .int 0, .int 0, .int 0, .int 0, .long 0, .int 0, .int 0, .int 0, .int 0, .int 0, .int (-1), .int 0, .ref (u11 39), .ref (u11 40), .ref (u11 41), .ref (u11 42), .ref (u11 43), .int 0, .int 0, .ref (u11 44), .ref (u11 45), .ref (u11 46), .ref (u11 47), .ref (u11 48), .ref (u11 49), .ref (u11 50), .ref (u11 51), .int 0, .int 0, .int 0, .int 0, .ref (u11 52), .ref (u11 53), .int 0, .ref (u11 54), .ref (u11 55), .ref (u11 56), .ref (u11 57), .ref (u11 58), .ref (u11 59)]))] B hl.1 hP hD hS [0] [] rfl rfl rfl (kX12_years_75 l D K _ q9 (u11 0) (u11 1) (u11 2) (u11 3) (u11 4) (u11 5) (u11 6) (u11 7) (u11 8) (u11 9) (u11 10) (u11 11) (u11 12) (u11 13) (u11 14) (u11 15) (u11 16) (u11 17) (u11 18) (u11 19) (u11 20) (u11 21) (u11 60) (u11 22) (u11 23) (u11 24) (u11 61) (u11 25) (u11 26) (u11 62) (u11 63) (u11 64) (u11 27) (u11 28) (u11 29) (u11 30) (u11 31) (u11 32) (u11 33) (u11 34) (u11 35) (u11 36) (u11 37) (u11 38) (u11 65) (u11 39) (u11 40) (u11 41) (u11 42) (u11 43) (u11 44) (u11 45) (u11 46) (u11 47) (u11 48) (u11 49) (u11 50) (u11 51) (u11 52) (u11 53) (u11 54) (u11 55) (u11 56) (u11 57) (u11 58) (u11 59) (xs 1) (xs 2) (xs 3)) wd_X12_years mml_L_71 rfl rfl rfl rfl ⟨Nat.le_of_ble_eq_true rfl, Nat.le_of_ble_eq_true rfl⟩ (Nat.le_of_ble_eq_true rfl) ⟨Nat.le_of_ble_eq_true rfl, Nat.le_of_ble_eq_true rfl⟩ dL_law_740 (fun r237 u H locs hw hP hD hS => ?_)
      try dsimp only at hw
      rcases hw with ⟨rfl, w238⟩
      have hP : va_P D vwCl [] H := hP
      have hD : va_D A [] := hD
      refine lv_icmp_eq (tgt := 1474) hx hb dL_law_743 (by decide) (fun _ => ?_) (fun h9 => absurd (by decide) h9)
      refine lv_iinc (v := 7) (lv' := [(3, .int 7), (2, .ref q9), (1, .ref q1), (0, .ref b)]) hx hb dL_law_1474 hl (k := 0) rfl (by decide) (by decide) rfl (fun ls hl => ?_)
      refine lv_pc (q := 1477) rfl ?_
      refine lv_goto (tgt := 18) hx hb dL_law_1477 (by decide) ?_
      refine lv_iload_n hx hb dL_law_18 rfl (lv_at hl 0 rfl) ?_
      refine lv_aload_n hx hb dL_law_19 rfl (lv_at hl 3 rfl) ?_
      refine va_slen hx hb hX hbl hbA hS dL_law_20 ?_
      refine lv_fixi (y := 7) (by decide) ?_
      refine lv_bipush (v := 7) hx hb dL_law_21 (by decide) ?_
      refine lv_isub hx hb dL_law_23 ?_
      refine lv_fixi (y := 0) (by decide) ?_
      refine lv_pc (q := 24) rfl ?_
      refine lv_icmp_gt (tgt := 1480) hx hb dL_law_24 (by decide) (fun _ => ?_) (fun h9 => absurd (by decide) h9)
      refine lv_iconst (v := 1) hx hb dL_law_1480 (by decide) ?_
      refine va_forget (fun q hq => by have h9 := hS.2.2 q hq; rw [hAe] at h9; exact h9) ?_
      refine W.widen (k := 600000) (n := 7302250) (by decide) (by decide) ?_
      exact lw_ret hx hb hr hlocks dL_law_1481
    · refine lv_fixi (y := 12) ejj ?_
      refine lv_tableIn (off := 715) (tgt := 748) hx hb dL_law_33 (by decide) (by decide) rfl (by decide) ?_
      replace hP := uSub (wc := [(q1, .inr (11, [.ref (u3 0), .ref (u3 7), .ref (u3 16), .ref (u3 17), .ref (u3 24), .ref (u3 27), .ref (u3 30), .ref (u3 33), .ref (u3 62), .ref (u3 77), .ref (u3 50)])), (u3 17, .inr (3, [.ref (u3 18), .ref (u3 19), .ref (u3 20), .ref (u3 21), .ref (u3 22), .ref (u3 23), .int 0, .int (-1), .int 1, .int 0])), (q9, .inr (12, [.int 0, .int 4, .int 4, .ref (u11 0), .ref (u11 1), .ref (u11 2), .ref (u11 3), .int 0, .ref (u11 4), .ref (u11 5), .int 0, .ref (u11 6), .ref (u11 7), .ref (u11 8), .ref (u11 9), .ref (u11 10), .ref (u11 11), .ref (u11 12), .int 0, .ref (u11 13), .ref (u11 14), .ref (u11 15), .ref (u11 16), .ref (u11 17), .ref (u11 18), .int 0, .ref (u11 19), .int 0, .int 0, .int 0, .ref (u11 20), .int 0, .int 0, .ref (u11 21), .int 0, .ref (u11 60), .ref (u11 22), .ref (u11 23), .ref (u11 24), .ref (u11 61), .ref (u11 25), .ref (u11 26), .ref (u11 62), .ref (u11 63), .ref (u11 64), .ref (u11 27), .ref (u11 28), .ref (u11 29), .ref (u11 30), .ref (u11 31), .ref (u11 32), .ref (u11 33), .ref (u11 34), .ref (u11 35), .ref (u11 36), .ref (u11 37), .ref (u11 38), .ref (u11 65), .int 0, .int 0, .int 0, .int 0, .int 0, .long 0, .int 0, .int 0, .int 0, .int 0, .int 0, .int (-1), .int 0, .ref (u11 39), .ref (u11 40), .ref (u11 41), .ref (u11 42), .ref (u11 43), .int 0, .int 0, .ref (u11 44), .ref (u11 45), .ref (u11 46), .ref (u11 47), .ref (u11 48), .ref (u11 49), .ref (u11 50), .ref (u11 51), .int 0, .int 0, .int 0, .int 0, .ref (u11 52), .ref (u11 53), .int 0, .ref (u11 54), .ref (u11 55), .ref (u11 56), .ref (u11 57), .ref (u11 58), .ref (u11 59)]))]) hP [0, 18, 97] rfl
      replace hD := hD.sub (ws' := [(q1, .inr (11, [.ref (u3 0), .ref (u3 7), .ref (u3 16), .ref (u3 17), .ref (u3 24), .ref (u3 27), .ref (u3 30), .ref (u3 33), .ref (u3 62), .ref (u3 77), .ref (u3 50)])), (u3 17, .inr (3, [.ref (u3 18), .ref (u3 19), .ref (u3 20), .ref (u3 21), .ref (u3 22), .ref (u3 23), .int 0, .int (-1), .int 1, .int 0])), (q9, .inr (12, [.int 0, .int 4, .int 4, .ref (u11 0), .ref (u11 1), .ref (u11 2), .ref (u11 3), .int 0, .ref (u11 4), .ref (u11 5), .int 0, .ref (u11 6), .ref (u11 7), .ref (u11 8), .ref (u11 9), .ref (u11 10), .ref (u11 11), .ref (u11 12), .int 0, .ref (u11 13), .ref (u11 14), .ref (u11 15), .ref (u11 16), .ref (u11 17), .ref (u11 18), .int 0, .ref (u11 19), .int 0, .int 0, .int 0, .ref (u11 20), .int 0, .int 0, .ref (u11 21), .int 0, .ref (u11 60), .ref (u11 22), .ref (u11 23), .ref (u11 24), .ref (u11 61), .ref (u11 25), .ref (u11 26), .ref (u11 62), .ref (u11 63), .ref (u11 64), .ref (u11 27), .ref (u11 28), .ref (u11 29), .ref (u11 30), .ref (u11 31), .ref (u11 32), .ref (u11 33), .ref (u11 34), .ref (u11 35), .ref (u11 36), .ref (u11 37), .ref (u11 38), .ref (u11 65), .int 0, .int 0, .int 0, .int 0, .int 0, .long 0, .int 0, .int 0, .int 0, .int 0, .int 0, .int (-1), .int 0, .ref (u11 39), .ref (u11 40), .ref (u11 41), .ref (u11 42), .ref (u11 43), .int 0, .int 0, .ref (u11 44), .ref (u11 45), .ref (u11 46), .ref (u11 47), .ref (u11 48), .ref (u11 49), .ref (u11 50), .ref (u11 51), .int 0, .int 0, .int 0, .int 0, .ref (u11 52), .ref (u11 53), .int 0, .ref (u11 54), .ref (u11 55), .ref (u11 56), .ref (u11 57), .ref (u11 58), .ref (u11 59)]))]) [0, 18, 97] rfl rfl
      refine lv_pc (q := 748) rfl ?_
      refine lv_aload_n hx hb dL_law_748 rfl (lv_at hl 2 rfl) ?_
      refine uVi (As := []) (rest := []) (wr := [(q9, .inr (12, [.int 0, .int 4, .int 4, .ref (u11 0), .ref (u11 1), .ref (u11 2), .ref (u11 3), .int 0, .ref (u11 4), .ref (u11 5), .int 0, .ref (u11 6), .ref (u11 7), .ref (u11 8), .ref (u11 9), .ref (u11 10), .ref (u11 11), .ref (u11 12), .int 0, .ref (u11 13), .ref (u11 14), .ref (u11 15), .ref (u11 16), .ref (u11 17), .ref (u11 18), .int 0, .ref (u11 19), .int 0, .int 0, .int 0, .ref (u11 20), .int 0, .int 0, .ref (u11 21), .int 0, .ref (u11 60), .ref (u11 22), .ref (u11 23), .ref (u11 24), .ref (u11 61), .ref (u11 25), .ref (u11 26), .ref (u11 62), .ref (u11 63), .ref (u11 64), .ref (u11 27), .ref (u11 28), .ref (u11 29), .ref (u11 30), .ref (u11 31), .ref (u11 32), .ref (u11 33), .ref (u11 34), .ref (u11 35), .ref (u11 36), .ref (u11 37), .ref (u11 38), .ref (u11 65), .int 0, .int 0, .int 0, .int 0, .int 0, .long 0, .int 0, .int 0, .int 0, .int 0, .int 0, .int (-1), .int 0, .ref (u11 39), .ref (u11 40), .ref (u11 41), .ref (u11 42), .ref (u11 43), .int 0, .int 0, .ref (u11 44), .ref (u11 45), .ref (u11 46), .ref (u11 47), .ref (u11 48), .ref (u11 49), .ref (u11 50), .ref (u11 51), .int 0, .int 0, .int 0, .int 0, .ref (u11 52), .ref (u11 53), .int 0, .ref (u11 54), .ref (u11 55), .ref (u11 56), .ref (u11 57), .ref (u11 58), .ref (u11 59)]))]) [(q1, .inr (11, [.ref (u3 0), .ref (u3 7), .ref (u3 16), .ref (u3 17), .ref (u3 24), .ref (u3 27), .ref (u3 30), .ref (u3 33), .ref (u3 62), .ref (u3 77), .ref (u3 50)])), (u3 17, .inr (3, [.ref (u3 18), .ref (u3 19), .ref (u3 20), .ref (u3 21), .ref (u3 22), .ref (u3 23), .int 0, .int (-1), .int 1, .int 0]))] B hl.1 hP hD hS [0, 1] [2] rfl rfl rfl (kX11_quarrel_77 l D K _ q1 (u3 17) (u3 0) (u3 7) (u3 16) (u3 24) (u3 27) (u3 30) (u3 33) (u3 62) (u3 77) (u3 50) (u3 18) (u3 19) (u3 20) (u3 21) (u3 22) (u3 23)) wd_X11_quarrel mml_L_72 rfl rfl rfl rfl ⟨Nat.le_of_ble_eq_true rfl, Nat.le_of_ble_eq_true rfl⟩ (Nat.le_of_ble_eq_true rfl) ⟨Nat.le_of_ble_eq_true rfl, Nat.le_of_ble_eq_true rfl⟩ dL_law_749 (fun r239 u H locs hw hP hD hS => ?_)
      try dsimp only at hw
      rcases hw with rfl
      have hP : va_P D vwCl [(q9, .inr (12, [.int 0, .int 4, .int 4, .ref (u11 0), .ref (u11 1), .ref (u11 2), .ref (u11 3), .int 0, .ref (u11 4), .ref (u11 5), .int 0, .ref (u11 6), .ref (u11 7), .ref (u11 8), .ref (u11 9), .ref (u11 10), .ref (u11 11), .ref (u11 12), .int 0, .ref (u11 13), .ref (u11 14), .ref (u11 15), .ref (u11 16), .ref (u11 17), .ref (u11 18), .int 0, .ref (u11 19), .int 0, .int 0, .int 0, .ref (u11 20), .int 0, .int 0, .ref (u11 21), .int 0, .ref (u11 60), .ref (u11 22), .ref (u11 23), .ref (u11 24), .ref (u11 61), .ref (u11 25), .ref (u11 26), .ref (u11 62), .ref (u11 63), .ref (u11 64), .ref (u11 27), .ref (u11 28), .ref (u11 29), .ref (u11 30), .ref (u11 31), .ref (u11 32), .ref (u11 33), .ref (u11 34), .ref (u11 35), .ref (u11 36), .ref (u11 37), .ref (u11 38), .ref (u11 65), .int 0, .int 0, .int 0, .int 0, .int 0, .long 0, .int 0, .int 0, .int 0, .int 0, .int 0, .int (-1), .int 0, .ref (u11 39), .ref (u11 40), .ref (u11 41), .ref (u11 42), .ref (u11 43), .int 0, .int 0, .ref (u11 44), .ref (u11 45), .ref (u11 46), .ref (u11 47), .ref (u11 48), .ref (u11 49), .ref (u11 50), .ref (u11 51), .int 0, .int 0, .int 0, .int 0, .ref (u11 52), .ref (u11 53), .int 0, .ref (u11 54), .ref (u11 55), .ref (u11 56), .ref (u11 57), .ref (u11 58), .ref (u11 59)]))] H := hP
      have hD : va_D A [(q9, .inr (12, [.int 0, .int 4, .int 4, .ref (u11 0), .ref (u11 1), .ref (u11 2), .ref (u11 3), .int 0, .ref (u11 4), .ref (u11 5), .int 0, .ref (u11 6), .ref (u11 7), .ref (u11 8), .ref (u11 9), .ref (u11 10), .ref (u11 11), .ref (u11 12), .int 0, .ref (u11 13), .ref (u11 14), .ref (u11 15), .ref (u11 16), .ref (u11 17), .ref (u11 18), .int 0, .ref (u11 19), .int 0, .int 0, .int 0, .ref (u11 20), .int 0, .int 0, .ref (u11 21), .int 0, .ref (u11 60), .ref (u11 22), .ref (u11 23), .ref (u11 24), .ref (u11 61), .ref (u11 25), .ref (u11 26), .ref (u11 62), .ref (u11 63), .ref (u11 64), .ref (u11 27), .ref (u11 28), .ref (u11 29), .ref (u11 30), .ref (u11 31), .ref (u11 32), .ref (u11 33), .ref (u11 34), .ref (u11 35), .ref (u11 36), .ref (u11 37), .ref (u11 38), .ref (u11 65), .int 0, .int 0, .int 0, .int 0, .int 0, .long 0, .int 0, .int 0, .int 0, .int 0, .int 0, .int (-1), .int 0, .ref (u11 39), .ref (u11 40), .ref (u11 41), .ref (u11 42), .ref (u11 43), .int 0, .int 0, .ref (u11 44), .ref (u11 45), .ref (u11 46), .ref (u11 47), .ref (u11 48), .ref (u11 49), .ref (u11 50), .ref (u11 51), .int 0, .int 0, .int 0, .int 0, .ref (u11 52), .ref (u11 53), .int 0, .ref (u11 54), .ref (u11 55), .ref (u11 56), .ref (u11 57), .ref (u11 58), .ref (u11 59)]))] := hD
      refine lv_aload_n hx hb dL_law_752 rfl (lv_at hl 1 rfl) ?_
      refine uVi (As := []) (rest := [.int (-1)]) (wr := []) [(q9, .inr (12, [.int 0, .int 4, .int 4, .ref (u11 0), .ref (u11 1), .ref (u11 2), .ref (u11 3), .int 0, .ref (u11 4), .ref (u11 5), .int 0, .ref (u11 6), .ref (u11 7), .ref (u11 8), .ref (u11 9), .ref (u11 10), .ref (u11 11), .ref (u11 12), .int 0, .ref (u11 13), .ref (u11 14), .ref (u11 15), .ref (u11 16), .ref (u11 17), .ref (u11 18), .int 0, .ref (u11 19), .int 0, .int 0, .int 0, .ref (u11 20), .int 0, .int 0, .ref (u11 21), .int 0, .ref (u11 60), .ref (u11 22), .ref (u11 23), .ref (u11 24), .ref (u11 61), .ref (u11 25), .ref (u11 26), .ref (u11 62), .ref (u11 63), .ref (u11 64), .ref (u11 27), .ref (u11 28), .ref (u11 29), .ref (u11 30), .ref (u11 31), .ref (u11 32), .ref (u11 33), .ref (u11 34), .ref (u11 35), .ref (u11 36), .ref (u11 37), .ref (u11 38), .ref (u11 65), .int 0, .int 0, .int 0, .int 0, .int 0, .long 0, .int 0, .int 0, .int 0, .int 0, .int 0, .int (-1), .int 0, .ref (u11 39), .ref (u11 40), .ref (u11 41), .ref (u11 42), .ref (u11 43), .int 0, .int 0, .ref (u11 44), .ref (u11 45), .ref (u11 46), .ref (u11 47), .ref (u11 48), .ref (u11 49), .ref (u11 50), .ref (u11 51), .int 0, .int 0, .int 0, .int 0, .ref (u11 52), .ref (u11 53), .int 0, .ref (u11 54), .ref (u11 55), .ref (u11 56), .ref (u11 57), .ref (u11 58), .ref (u11 59)]))] B hl.1 hP hD hS [0] [] rfl rfl rfl (kX12_quarrel_79 l D K _ q9 (u11 0) (u11 1) (u11 2) (u11 3) (u11 4) (u11 5) (u11 6) (u11 7) (u11 8) (u11 9) (u11 10) (u11 11) (u11 12) (u11 13) (u11 14) (u11 15) (u11 16) (u11 17) (u11 18) (u11 19) (u11 20) (u11 21) (u11 60) (u11 22) (u11 23) (u11 24) (u11 61) (u11 25) (u11 26) (u11 62) (u11 63) (u11 64) (u11 27) (u11 28) (u11 29) (u11 30) (u11 31) (u11 32) (u11 33) (u11 34) (u11 35) (u11 36) (u11 37) (u11 38) (u11 65) (u11 39) (u11 40) (u11 41) (u11 42) (u11 43) (u11 44) (u11 45) (u11 46) (u11 47) (u11 48) (u11 49) (u11 50) (u11 51) (u11 52) (u11 53) (u11 54) (u11 55) (u11 56) (u11 57) (u11 58) (u11 59)) wd_X12_quarrel mml_L_76 rfl rfl rfl rfl ⟨Nat.le_of_ble_eq_true rfl, Nat.le_of_ble_eq_true rfl⟩ (Nat.le_of_ble_eq_true rfl) ⟨Nat.le_of_ble_eq_true rfl, Nat.le_of_ble_eq_true rfl⟩ dL_law_753 (fun r240 u H locs hw hP hD hS => ?_)
      try dsimp only at hw
      rcases hw with rfl
      have hP : va_P D vwCl [] H := hP
      have hD : va_D A [] := hD
      refine lv_icmp_eq (tgt := 1474) hx hb dL_law_756 (by decide) (fun _ => ?_) (fun h9 => absurd (by decide) h9)
      refine lv_iinc (v := 7) (lv' := [(3, .int 7), (2, .ref q9), (1, .ref q1), (0, .ref b)]) hx hb dL_law_1474 hl (k := 0) rfl (by decide) (by decide) rfl (fun ls hl => ?_)
      refine lv_pc (q := 1477) rfl ?_
      refine lv_goto (tgt := 18) hx hb dL_law_1477 (by decide) ?_
      refine lv_iload_n hx hb dL_law_18 rfl (lv_at hl 0 rfl) ?_
      refine lv_aload_n hx hb dL_law_19 rfl (lv_at hl 3 rfl) ?_
      refine va_slen hx hb hX hbl hbA hS dL_law_20 ?_
      refine lv_fixi (y := 7) (by decide) ?_
      refine lv_bipush (v := 7) hx hb dL_law_21 (by decide) ?_
      refine lv_isub hx hb dL_law_23 ?_
      refine lv_fixi (y := 0) (by decide) ?_
      refine lv_pc (q := 24) rfl ?_
      refine lv_icmp_gt (tgt := 1480) hx hb dL_law_24 (by decide) (fun _ => ?_) (fun h9 => absurd (by decide) h9)
      refine lv_iconst (v := 1) hx hb dL_law_1480 (by decide) ?_
      refine va_forget (fun q hq => by have h9 := hS.2.2 q hq; rw [hAe] at h9; exact h9) ?_
      refine W.widen (k := 600000) (n := 7302250) (by decide) (by decide) ?_
      exact lw_ret hx hb hr hlocks dL_law_1481
    · refine lv_fixi (y := 13) ejj ?_
      refine lv_tableIn (off := 728) (tgt := 761) hx hb dL_law_33 (by decide) (by decide) rfl (by decide) ?_
      replace hP := uSub (wc := [(q1, .inr (11, [.ref (u3 0), .ref (u3 7), .ref (u3 16), .ref (u3 17), .ref (u3 24), .ref (u3 27), .ref (u3 30), .ref (u3 33), .ref (u3 62), .ref (u3 77), .ref (u3 50)])), (u3 7, .inr (4, [.ref (u3 0), .ref (u3 8), .ref (u3 9), .ref (u3 10), .ref (u3 11), .ref (u3 12), .ref (u3 13), .ref (u3 14), .ref (u3 15), .int 0])), (q9, .inr (12, [.int 0, .int 4, .int 4, .ref (u11 0), .ref (u11 1), .ref (u11 2), .ref (u11 3), .int 0, .ref (u11 4), .ref (u11 5), .int 0, .ref (u11 6), .ref (u11 7), .ref (u11 8), .ref (u11 9), .ref (u11 10), .ref (u11 11), .ref (u11 12), .int 0, .ref (u11 13), .ref (u11 14), .ref (u11 15), .ref (u11 16), .ref (u11 17), .ref (u11 18), .int 0, .ref (u11 19), .int 0, .int 0, .int 0, .ref (u11 20), .int 0, .int 0, .ref (u11 21), .int 0, .ref (u11 60), .ref (u11 22), .ref (u11 23), .ref (u11 24), .ref (u11 61), .ref (u11 25), .ref (u11 26), .ref (u11 62), .ref (u11 63), .ref (u11 64), .ref (u11 27), .ref (u11 28), .ref (u11 29), .ref (u11 30), .ref (u11 31), .ref (u11 32), .ref (u11 33), .ref (u11 34), .ref (u11 35), .ref (u11 36), .ref (u11 37), .ref (u11 38), .ref (u11 65), .int 0, .int 0, .int 0, .int 0, .int 0, .long 0, .int 0, .int 0, .int 0, .int 0, .int 0, .int (-1), .int 0, .ref (u11 39), .ref (u11 40), .ref (u11 41), .ref (u11 42), .ref (u11 43), .int 0, .int 0, .ref (u11 44), .ref (u11 45), .ref (u11 46), .ref (u11 47), .ref (u11 48), .ref (u11 49), .ref (u11 50), .ref (u11 51), .int 0, .int 0, .int 0, .int 0, .ref (u11 52), .ref (u11 53), .int 0, .ref (u11 54), .ref (u11 55), .ref (u11 56), .ref (u11 57), .ref (u11 58), .ref (u11 59)]))]) hP [0, 8, 97] rfl
      replace hD := hD.sub (ws' := [(q1, .inr (11, [.ref (u3 0), .ref (u3 7), .ref (u3 16), .ref (u3 17), .ref (u3 24), .ref (u3 27), .ref (u3 30), .ref (u3 33), .ref (u3 62), .ref (u3 77), .ref (u3 50)])), (u3 7, .inr (4, [.ref (u3 0), .ref (u3 8), .ref (u3 9), .ref (u3 10), .ref (u3 11), .ref (u3 12), .ref (u3 13), .ref (u3 14), .ref (u3 15), .int 0])), (q9, .inr (12, [.int 0, .int 4, .int 4, .ref (u11 0), .ref (u11 1), .ref (u11 2), .ref (u11 3), .int 0, .ref (u11 4), .ref (u11 5), .int 0, .ref (u11 6), .ref (u11 7), .ref (u11 8), .ref (u11 9), .ref (u11 10), .ref (u11 11), .ref (u11 12), .int 0, .ref (u11 13), .ref (u11 14), .ref (u11 15), .ref (u11 16), .ref (u11 17), .ref (u11 18), .int 0, .ref (u11 19), .int 0, .int 0, .int 0, .ref (u11 20), .int 0, .int 0, .ref (u11 21), .int 0, .ref (u11 60), .ref (u11 22), .ref (u11 23), .ref (u11 24), .ref (u11 61), .ref (u11 25), .ref (u11 26), .ref (u11 62), .ref (u11 63), .ref (u11 64), .ref (u11 27), .ref (u11 28), .ref (u11 29), .ref (u11 30), .ref (u11 31), .ref (u11 32), .ref (u11 33), .ref (u11 34), .ref (u11 35), .ref (u11 36), .ref (u11 37), .ref (u11 38), .ref (u11 65), .int 0, .int 0, .int 0, .int 0, .int 0, .long 0, .int 0, .int 0, .int 0, .int 0, .int 0, .int (-1), .int 0, .ref (u11 39), .ref (u11 40), .ref (u11 41), .ref (u11 42), .ref (u11 43), .int 0, .int 0, .ref (u11 44), .ref (u11 45), .ref (u11 46), .ref (u11 47), .ref (u11 48), .ref (u11 49), .ref (u11 50), .ref (u11 51), .int 0, .int 0, .int 0, .int 0, .ref (u11 52), .ref (u11 53), .int 0, .ref (u11 54), .ref (u11 55), .ref (u11 56), .ref (u11 57), .ref (u11 58), .ref (u11 59)]))]) [0, 8, 97] rfl rfl
      refine lv_pc (q := 761) rfl ?_
      refine lv_aload_n hx hb dL_law_761 rfl (lv_at hl 2 rfl) ?_
      refine lv_aload_n hx hb dL_law_762 rfl (lv_at hl 3 rfl) ?_
      refine lv_iload_n hx hb dL_law_763 rfl (lv_at hl 0 rfl) ?_
      refine lv_iconst (v := 1) hx hb dL_law_764 (by decide) ?_
      refine lv_iadd hx hb dL_law_765 ?_
      refine lv_fixi (y := 1) (by decide) ?_
      refine va_sld (i := 1) hx hb hX hbl hbA hS (by show ¬ (_ ∨ _); decide) dL_law_766 ?_
      refine lv_fixi (y := (xs 1)) rfl ?_
      refine lv_pc (q := 767) rfl ?_
      refine lv_aload_n hx hb dL_law_767 rfl (lv_at hl 3 rfl) ?_
      refine lv_iload_n hx hb dL_law_768 rfl (lv_at hl 0 rfl) ?_
      refine lv_iconst (v := 2) hx hb dL_law_769 (by decide) ?_
      refine lv_iadd hx hb dL_law_770 ?_
      refine lv_fixi (y := 2) (by decide) ?_
      refine va_sld (i := 2) hx hb hX hbl hbA hS (by show ¬ (_ ∨ _); decide) dL_law_771 ?_
      refine lv_fixi (y := (xs 2)) rfl ?_
      refine lv_aload_n hx hb dL_law_772 rfl (lv_at hl 3 rfl) ?_
      refine lv_pc (q := 773) rfl ?_
      refine lv_iload_n hx hb dL_law_773 rfl (lv_at hl 0 rfl) ?_
      refine lv_iconst (v := 3) hx hb dL_law_774 (by decide) ?_
      refine lv_iadd hx hb dL_law_775 ?_
      refine lv_fixi (y := 3) (by decide) ?_
      refine va_sld (i := 3) hx hb hX hbl hbA hS (by show ¬ (_ ∨ _); decide) dL_law_776 ?_
      refine lv_fixi (y := (xs 3)) rfl ?_
      refine uVi (As := [.int (xs 1), .int (xs 2), .int (xs 3)]) (rest := []) (wr := [(q9, .inr (12, [.int 0, .int 4, .int 4, .ref (u11 0), .ref (u11 1), .ref (u11 2), .ref (u11 3), .int 0, .ref (u11 4), .ref (u11 5), .int 0, .ref (u11 6), .ref (u11 7), .ref (u11 8), .ref (u11 9), .ref (u11 10), .ref (u11 11), .ref (u11 12), .int 0, .ref (u11 13), .ref (u11 14), .ref (u11 15), .ref (u11 16), .ref (u11 17), .ref (u11 18), .int 0, .ref (u11 19), .int 0, .int 0, .int 0, .ref (u11 20), .int 0, .int 0, .ref (u11 21), .int 0, .ref (u11 60), .ref (u11 22), .ref (u11 23), .ref (u11 24), .ref (u11 61), .ref (u11 25), .ref (u11 26), .ref (u11 62), .ref (u11 63), .ref (u11 64), .ref (u11 27), .ref (u11 28), .ref (u11 29), .ref (u11 30), .ref (u11 31), .ref (u11 32), .ref (u11 33), .ref (u11 34), .ref (u11 35), .ref (u11 36), .ref (u11 37), .ref (u11 38), .ref (u11 65), .int 0, .int 0, .int 0, .int 0, .int 0, .long 0, .int 0, .int 0, .int 0, .int 0, .int 0, .int (-1), .int 0, .ref (u11 39), .ref (u11 40), .ref (u11 41), .ref (u11 42), .ref (u11 43), .int 0, .int 0, .ref (u11 44), .ref (u11 45), .ref (u11 46), .ref (u11 47), .ref (u11 48), .ref (u11 49), .ref (u11 50), .ref (u11 51), .int 0, .int 0, .int 0, .int 0, .ref (u11 52), .ref (u11 53), .int 0, .ref (u11 54), .ref (u11 55), .ref (u11 56), .ref (u11 57), .ref (u11 58), .ref (u11 59)]))]) [(q1, .inr (11, [.ref (u3 0), .ref (u3 7), .ref (u3 16), .ref (u3 17), .ref (u3 24), .ref (u3 27), .ref (u3 30), .ref (u3 33), .ref (u3 62), .ref (u3 77), .ref (u3 50)])), (u3 7, .inr (4, [.ref (u3 0), .ref (u3 8), .ref (u3 9), .ref (u3 10), .ref (u3 11), .ref (u3 12), .ref (u3 13), .ref (u3 14), .ref (u3 15), .int 0]))] B hl.1 hP hD hS [0, 1] [2] rfl rfl rfl (kX11_stood_80 l D K _ q1 (u3 7) (u3 0) (u3 16) (u3 17) (u3 24) (u3 27) (u3 30) (u3 33) (u3 62) (u3 77) (u3 50) (u3 8) (u3 9) (u3 10) (u3 11) (u3 12) (u3 13) (u3 14) (u3 15) (xs 1) (xs 2) (xs 3)) wd_X11_stood mml_L_77 rfl rfl rfl rfl ⟨Nat.le_of_ble_eq_true rfl, Nat.le_of_ble_eq_true rfl⟩ (Nat.le_of_ble_eq_true rfl) ⟨Nat.le_of_ble_eq_true rfl, Nat.le_of_ble_eq_true rfl⟩ dL_law_777 (fun r241 u H locs hw hP hD hS => ?_)
      try dsimp only at hw
      rcases hw with ⟨rfl, w242⟩
      have hP : va_P D vwCl [(q9, .inr (12, [.int 0, .int 4, .int 4, .ref (u11 0), .ref (u11 1), .ref (u11 2), .ref (u11 3), .int 0, .ref (u11 4), .ref (u11 5), .int 0, .ref (u11 6), .ref (u11 7), .ref (u11 8), .ref (u11 9), .ref (u11 10), .ref (u11 11), .ref (u11 12), .int 0, .ref (u11 13), .ref (u11 14), .ref (u11 15), .ref (u11 16), .ref (u11 17), .ref (u11 18), .int 0, .ref (u11 19), .int 0, .int 0, .int 0, .ref (u11 20), .int 0, .int 0, .ref (u11 21), .int 0, .ref (u11 60), .ref (u11 22), .ref (u11 23), .ref (u11 24), .ref (u11 61), .ref (u11 25), .ref (u11 26), .ref (u11 62), .ref (u11 63), .ref (u11 64), .ref (u11 27), .ref (u11 28), .ref (u11 29), .ref (u11 30), .ref (u11 31), .ref (u11 32), .ref (u11 33), .ref (u11 34), .ref (u11 35), .ref (u11 36), .ref (u11 37), .ref (u11 38), .ref (u11 65), .int 0, .int 0, .int 0, .int 0, .int 0, .long 0, .int 0, .int 0, .int 0, .int 0, .int 0, .int (-1), .int 0, .ref (u11 39), .ref (u11 40), .ref (u11 41), .ref (u11 42), .ref (u11 43), .int 0, .int 0, .ref (u11 44), .ref (u11 45), .ref (u11 46), .ref (u11 47), .ref (u11 48), .ref (u11 49), .ref (u11 50), .ref (u11 51), .int 0, .int 0, .int 0, .int 0, .ref (u11 52), .ref (u11 53), .int 0, .ref (u11 54), .ref (u11 55), .ref (u11 56), .ref (u11 57), .ref (u11 58), .ref (u11 59)]))] H := hP
      have hD : va_D A [(q9, .inr (12, [.int 0, .int 4, .int 4, .ref (u11 0), .ref (u11 1), .ref (u11 2), .ref (u11 3), .int 0, .ref (u11 4), .ref (u11 5), .int 0, .ref (u11 6), .ref (u11 7), .ref (u11 8), .ref (u11 9), .ref (u11 10), .ref (u11 11), .ref (u11 12), .int 0, .ref (u11 13), .ref (u11 14), .ref (u11 15), .ref (u11 16), .ref (u11 17), .ref (u11 18), .int 0, .ref (u11 19), .int 0, .int 0, .int 0, .ref (u11 20), .int 0, .int 0, .ref (u11 21), .int 0, .ref (u11 60), .ref (u11 22), .ref (u11 23), .ref (u11 24), .ref (u11 61), .ref (u11 25), .ref (u11 26), .ref (u11 62), .ref (u11 63), .ref (u11 64), .ref (u11 27), .ref (u11 28), .ref (u11 29), .ref (u11 30), .ref (u11 31), .ref (u11 32), .ref (u11 33), .ref (u11 34), .ref (u11 35), .ref (u11 36), .ref (u11 37), .ref (u11 38), .ref (u11 65), .int 0, .int 0, .int 0, .int 0, .int 0, .long 0, .int 0, .int 0, .int 0, .int 0, .int 0, .int (-1), .int 0, .ref (u11 39), .ref (u11 40), .ref (u11 41), .ref (u11 42), .ref (u11 43), .int 0, .int 0, .ref (u11 44), .ref (u11 45), .ref (u11 46), .ref (u11 47), .ref (u11 48), .ref (u11 49), .ref (u11 50), .ref (u11 51), .int 0, .int 0, .int 0, .int 0, .ref (u11 52), .ref (u11 53), .int 0, .ref (u11 54), .ref (u11 55), .ref (u11 56), .ref (u11 57), .ref (u11 58), .ref (u11 59)]))] := hD
      refine lv_aload_n hx hb dL_law_780 rfl (lv_at hl 1 rfl) ?_
      refine lv_pc (q := 781) rfl ?_
      refine lv_aload_n hx hb dL_law_781 rfl (lv_at hl 3 rfl) ?_
      refine lv_iload_n hx hb dL_law_782 rfl (lv_at hl 0 rfl) ?_
      refine lv_iconst (v := 1) hx hb dL_law_783 (by decide) ?_
      refine lv_iadd hx hb dL_law_784 ?_
      refine lv_fixi (y := 1) (by decide) ?_
      refine va_sld (i := 1) hx hb hX hbl hbA hS (by show ¬ (_ ∨ _); decide) dL_law_785 ?_
      refine lv_fixi (y := (xs 1)) rfl ?_
      refine lv_aload_n hx hb dL_law_786 rfl (lv_at hl 3 rfl) ?_
      refine lv_pc (q := 787) rfl ?_
      refine lv_iload_n hx hb dL_law_787 rfl (lv_at hl 0 rfl) ?_
      refine lv_iconst (v := 2) hx hb dL_law_788 (by decide) ?_
      refine lv_iadd hx hb dL_law_789 ?_
      refine lv_fixi (y := 2) (by decide) ?_
      refine va_sld (i := 2) hx hb hX hbl hbA hS (by show ¬ (_ ∨ _); decide) dL_law_790 ?_
      refine lv_fixi (y := (xs 2)) rfl ?_
      refine lv_aload_n hx hb dL_law_791 rfl (lv_at hl 3 rfl) ?_
      refine lv_iload_n hx hb dL_law_792 rfl (lv_at hl 0 rfl) ?_
      refine lv_pc (q := 793) rfl ?_
      refine lv_iconst (v := 3) hx hb dL_law_793 (by decide) ?_
      refine lv_iadd hx hb dL_law_794 ?_
      refine lv_fixi (y := 3) (by decide) ?_
      refine va_sld (i := 3) hx hb hX hbl hbA hS (by show ¬ (_ ∨ _); decide) dL_law_795 ?_
      refine lv_fixi (y := (xs 3)) rfl ?_
      refine uVi (As := [.int (xs 1), .int (xs 2), .int (xs 3)]) (rest := [.int (-1)]) (wr := []) [(q9, .inr (12, [.int 0, .int 4, .int 4, .ref (u11 0), .ref (u11 1), .ref (u11 2), .ref (u11 3), .int 0, .ref (u11 4), .ref (u11 5), .int 0, .ref (u11 6), .ref (u11 7), .ref (u11 8), .ref (u11 9), .ref (u11 10), .ref (u11 11), .ref (u11 12), .int 0, .ref (u11 13), .ref (u11 14), .ref (u11 15), .ref (u11 16), .ref (u11 17), .ref (u11 18), .int 0, .ref (u11 19), .int 0, .int 0, .int 0, .ref (u11 20), .int 0, .int 0, .ref (u11 21), .int 0, .ref (u11 60), .ref (u11 22), .ref (u11 23), .ref (u11 24), .ref (u11 61), .ref (u11 25), .ref (u11 26), .ref (u11 62), .ref (u11 63), .ref (u11 64), .ref (u11 27), .ref (u11 28), .ref (u11 29), .ref (u11 30), .ref (u11 31), .ref (u11 32), .ref (u11 33), .ref (u11 34), .ref (u11 35), .ref (u11 36), .ref (u11 37), .ref (u11 38), .ref (u11 65), .int 0, .int 0, .int 0, .int 0, .int 0, .long 0, .int 0, .int 0, .int 0, .int 0, .int 0, .int (-1), .int 0, .ref (u11 39), .ref (u11 40), .ref (u11 41), .ref (u11 42), .ref (u11 43), .int 0, .int 0, .ref (u11 44), .ref (u11 45), .ref (u11 46), .ref (u11 47), .ref (u11 48), .ref (u11 49), .ref (u11 50), .ref (u11 51), .int 0, .int 0, .int 0, .int 0, .ref (u11 52), .ref (u11 53), .int 0, .ref (u11 54), .ref (u11 55), .ref (u11 56), .ref (u11 57), .ref (u11 58), .ref (u11 59)]))] B hl.1 hP hD hS [0] [] rfl rfl rfl (kX12_stood_81 l D K _ q9 (u11 0) (u11 1) (u11 2) (u11 3) (u11 4) (u11 5) (u11 6) (u11 7) (u11 8) (u11 9) (u11 10) (u11 11) (u11 12) (u11 13) (u11 14) (u11 15) (u11 16) (u11 17) (u11 18) (u11 19) (u11 20) (u11 21) (u11 60) (u11 22) (u11 23) (u11 24) (u11 61) (u11 25) (u11 26) (u11 62) (u11 63) (u11 64) (u11 27) (u11 28) (u11 29) (u11 30) (u11 31) (u11 32) (u11 33) (u11 34) (u11 35) (u11 36) (u11 37) (u11 38) (u11 65) (u11 39) (u11 40) (u11 41) (u11 42) (u11 43) (u11 44) (u11 45) (u11 46) (u11 47) (u11 48) (u11 49) (u11 50) (u11 51) (u11 52) (u11 53) (u11 54) (u11 55) (u11 56) (u11 57) (u11 58) (u11 59) (xs 1) (xs 2) (xs 3)) wd_X12_stood mml_L_80 rfl rfl rfl rfl ⟨Nat.le_of_ble_eq_true rfl, Nat.le_of_ble_eq_true rfl⟩ (Nat.le_of_ble_eq_true rfl) ⟨Nat.le_of_ble_eq_true rfl, Nat.le_of_ble_eq_true rfl⟩ dL_law_796 (fun r243 u H locs hw hP hD hS => ?_)
      try dsimp only at hw
      rcases hw with ⟨rfl, w244⟩
      have hP : va_P D vwCl [] H := hP
      have hD : va_D A [] := hD
      refine lv_icmp_eq (tgt := 1474) hx hb dL_law_799 (by decide) (fun _ => ?_) (fun h9 => absurd (by decide) h9)
      refine lv_iinc (v := 7) (lv' := [(3, .int 7), (2, .ref q9), (1, .ref q1), (0, .ref b)]) hx hb dL_law_1474 hl (k := 0) rfl (by decide) (by decide) rfl (fun ls hl => ?_)
      refine lv_pc (q := 1477) rfl ?_
      refine lv_goto (tgt := 18) hx hb dL_law_1477 (by decide) ?_
      refine lv_iload_n hx hb dL_law_18 rfl (lv_at hl 0 rfl) ?_
      refine lv_aload_n hx hb dL_law_19 rfl (lv_at hl 3 rfl) ?_
      refine va_slen hx hb hX hbl hbA hS dL_law_20 ?_
      refine lv_fixi (y := 7) (by decide) ?_
      refine lv_bipush (v := 7) hx hb dL_law_21 (by decide) ?_
      refine lv_isub hx hb dL_law_23 ?_
      refine lv_fixi (y := 0) (by decide) ?_
      refine lv_pc (q := 24) rfl ?_
      refine lv_icmp_gt (tgt := 1480) hx hb dL_law_24 (by decide) (fun _ => ?_) (fun h9 => absurd (by decide) h9)
      refine lv_iconst (v := 1) hx hb dL_law_1480 (by decide) ?_
      refine va_forget (fun q hq => by have h9 := hS.2.2 q hq; rw [hAe] at h9; exact h9) ?_
      refine W.widen (k := 600000) (n := 7302250) (by decide) (by decide) ?_
      exact lw_ret hx hb hr hlocks dL_law_1481
    · refine lv_fixi (y := 14) ejj ?_
      refine lv_tableIn (off := 771) (tgt := 804) hx hb dL_law_33 (by decide) (by decide) rfl (by decide) ?_
      replace hP := uSub (wc := [(q1, .inr (11, [.ref (u3 0), .ref (u3 7), .ref (u3 16), .ref (u3 17), .ref (u3 24), .ref (u3 27), .ref (u3 30), .ref (u3 33), .ref (u3 62), .ref (u3 77), .ref (u3 50)])), (u3 7, .inr (4, [.ref (u3 0), .ref (u3 8), .ref (u3 9), .ref (u3 10), .ref (u3 11), .ref (u3 12), .ref (u3 13), .ref (u3 14), .ref (u3 15), .int 0])), (u3 17, .inr (3, [.ref (u3 18), .ref (u3 19), .ref (u3 20), .ref (u3 21), .ref (u3 22), .ref (u3 23), .int 0, .int (-1), .int 1, .int 0])), (u3 22, .inl (K 0, 24, .inl (fun _ => 0))), (u3 23, .inl (K 0, 24, .inl (fun _ => 0))), (u3 24, .inr (1, [.ref (u3 7), .ref (u3 17), .ref (u3 16), .ref (u3 25), .ref (u3 26), .int 0, .int 0])), (u3 25, .inl (K 0, 12, .inl (fun _ => 0))), (u3 26, .inl (K 0, 12, .inl (fun _ => 0))), (q9, .inr (12, [.int 0, .int 4, .int 4, .ref (u11 0), .ref (u11 1), .ref (u11 2), .ref (u11 3), .int 0, .ref (u11 4), .ref (u11 5), .int 0, .ref (u11 6), .ref (u11 7), .ref (u11 8), .ref (u11 9), .ref (u11 10), .ref (u11 11), .ref (u11 12), .int 0, .ref (u11 13), .ref (u11 14), .ref (u11 15), .ref (u11 16), .ref (u11 17), .ref (u11 18), .int 0, .ref (u11 19), .int 0, .int 0, .int 0, .ref (u11 20), .int 0, .int 0, .ref (u11 21), .int 0, .ref (u11 60), .ref (u11 22), .ref (u11 23), .ref (u11 24), .ref (u11 61), .ref (u11 25), .ref (u11 26), .ref (u11 62), .ref (u11 63), .ref (u11 64), .ref (u11 27), .ref (u11 28), .ref (u11 29), .ref (u11 30), .ref (u11 31), .ref (u11 32), .ref (u11 33), .ref (u11 34), .ref (u11 35), .ref (u11 36), .ref (u11 37), .ref (u11 38), .ref (u11 65), .int 0, .int 0, .int 0, .int 0, .int 0, .long 0, .int 0, .int 0, .int 0, .int 0, .int 0, .int (-1), .int 0, .ref (u11 39), .ref (u11 40), .ref (u11 41), .ref (u11 42), .ref (u11 43), .int 0, .int 0, .ref (u11 44), .ref (u11 45), .ref (u11 46), .ref (u11 47), .ref (u11 48), .ref (u11 49), .ref (u11 50), .ref (u11 51), .int 0, .int 0, .int 0, .int 0, .ref (u11 52), .ref (u11 53), .int 0, .ref (u11 54), .ref (u11 55), .ref (u11 56), .ref (u11 57), .ref (u11 58), .ref (u11 59)]))]) hP [0, 8, 18, 23, 24, 25, 26, 27, 97] rfl
      replace hD := hD.sub (ws' := [(q1, .inr (11, [.ref (u3 0), .ref (u3 7), .ref (u3 16), .ref (u3 17), .ref (u3 24), .ref (u3 27), .ref (u3 30), .ref (u3 33), .ref (u3 62), .ref (u3 77), .ref (u3 50)])), (u3 7, .inr (4, [.ref (u3 0), .ref (u3 8), .ref (u3 9), .ref (u3 10), .ref (u3 11), .ref (u3 12), .ref (u3 13), .ref (u3 14), .ref (u3 15), .int 0])), (u3 17, .inr (3, [.ref (u3 18), .ref (u3 19), .ref (u3 20), .ref (u3 21), .ref (u3 22), .ref (u3 23), .int 0, .int (-1), .int 1, .int 0])), (u3 22, .inl (K 0, 24, .inl (fun _ => 0))), (u3 23, .inl (K 0, 24, .inl (fun _ => 0))), (u3 24, .inr (1, [.ref (u3 7), .ref (u3 17), .ref (u3 16), .ref (u3 25), .ref (u3 26), .int 0, .int 0])), (u3 25, .inl (K 0, 12, .inl (fun _ => 0))), (u3 26, .inl (K 0, 12, .inl (fun _ => 0))), (q9, .inr (12, [.int 0, .int 4, .int 4, .ref (u11 0), .ref (u11 1), .ref (u11 2), .ref (u11 3), .int 0, .ref (u11 4), .ref (u11 5), .int 0, .ref (u11 6), .ref (u11 7), .ref (u11 8), .ref (u11 9), .ref (u11 10), .ref (u11 11), .ref (u11 12), .int 0, .ref (u11 13), .ref (u11 14), .ref (u11 15), .ref (u11 16), .ref (u11 17), .ref (u11 18), .int 0, .ref (u11 19), .int 0, .int 0, .int 0, .ref (u11 20), .int 0, .int 0, .ref (u11 21), .int 0, .ref (u11 60), .ref (u11 22), .ref (u11 23), .ref (u11 24), .ref (u11 61), .ref (u11 25), .ref (u11 26), .ref (u11 62), .ref (u11 63), .ref (u11 64), .ref (u11 27), .ref (u11 28), .ref (u11 29), .ref (u11 30), .ref (u11 31), .ref (u11 32), .ref (u11 33), .ref (u11 34), .ref (u11 35), .ref (u11 36), .ref (u11 37), .ref (u11 38), .ref (u11 65), .int 0, .int 0, .int 0, .int 0, .int 0, .long 0, .int 0, .int 0, .int 0, .int 0, .int 0, .int (-1), .int 0, .ref (u11 39), .ref (u11 40), .ref (u11 41), .ref (u11 42), .ref (u11 43), .int 0, .int 0, .ref (u11 44), .ref (u11 45), .ref (u11 46), .ref (u11 47), .ref (u11 48), .ref (u11 49), .ref (u11 50), .ref (u11 51), .int 0, .int 0, .int 0, .int 0, .ref (u11 52), .ref (u11 53), .int 0, .ref (u11 54), .ref (u11 55), .ref (u11 56), .ref (u11 57), .ref (u11 58), .ref (u11 59)]))]) [0, 8, 18, 23, 24, 25, 26, 27, 97] rfl rfl
      refine lv_pc (q := 804) rfl ?_
      refine lv_aload_n hx hb dL_law_804 rfl (lv_at hl 2 rfl) ?_
      refine lv_aload_n hx hb dL_law_805 rfl (lv_at hl 3 rfl) ?_
      refine lv_iload_n hx hb dL_law_806 rfl (lv_at hl 0 rfl) ?_
      refine lv_iconst (v := 1) hx hb dL_law_807 (by decide) ?_
      refine lv_iadd hx hb dL_law_808 ?_
      refine lv_fixi (y := 1) (by decide) ?_
      refine va_sld (i := 1) hx hb hX hbl hbA hS (by show ¬ (_ ∨ _); decide) dL_law_809 ?_
      refine lv_fixi (y := (xs 1)) rfl ?_
      refine lv_pc (q := 810) rfl ?_
      refine lv_aload_n hx hb dL_law_810 rfl (lv_at hl 3 rfl) ?_
      refine lv_iload_n hx hb dL_law_811 rfl (lv_at hl 0 rfl) ?_
      refine lv_iconst (v := 2) hx hb dL_law_812 (by decide) ?_
      refine lv_iadd hx hb dL_law_813 ?_
      refine lv_fixi (y := 2) (by decide) ?_
      refine va_sld (i := 2) hx hb hX hbl hbA hS (by show ¬ (_ ∨ _); decide) dL_law_814 ?_
      refine lv_fixi (y := (xs 2)) rfl ?_
      refine lv_aload_n hx hb dL_law_815 rfl (lv_at hl 3 rfl) ?_
      refine lv_pc (q := 816) rfl ?_
      refine lv_iload_n hx hb dL_law_816 rfl (lv_at hl 0 rfl) ?_
      refine lv_iconst (v := 3) hx hb dL_law_817 (by decide) ?_
      refine lv_iadd hx hb dL_law_818 ?_
      refine lv_fixi (y := 3) (by decide) ?_
      refine va_sld (i := 3) hx hb hX hbl hbA hS (by show ¬ (_ ∨ _); decide) dL_law_819 ?_
      refine lv_fixi (y := (xs 3)) rfl ?_
      refine lv_aload_n hx hb dL_law_820 rfl (lv_at hl 3 rfl) ?_
      refine lv_iload_n hx hb dL_law_821 rfl (lv_at hl 0 rfl) ?_
      refine lv_pc (q := 822) rfl ?_
      refine lv_iconst (v := 4) hx hb dL_law_822 (by decide) ?_
      refine lv_iadd hx hb dL_law_823 ?_
      refine lv_fixi (y := 4) (by decide) ?_
      refine va_sld (i := 4) hx hb hX hbl hbA hS (by show ¬ (_ ∨ _); decide) dL_law_824 ?_
      refine lv_fixi (y := (xs 4)) rfl ?_
      refine uVi (As := [.int (xs 1), .int (xs 2), .int (xs 3), .int (xs 4)]) (rest := []) (wr := [(q9, .inr (12, [.int 0, .int 4, .int 4, .ref (u11 0), .ref (u11 1), .ref (u11 2), .ref (u11 3), .int 0, .ref (u11 4), .ref (u11 5), .int 0, .ref (u11 6), .ref (u11 7), .ref (u11 8), .ref (u11 9), .ref (u11 10), .ref (u11 11), .ref (u11 12), .int 0, .ref (u11 13), .ref (u11 14), .ref (u11 15), .ref (u11 16), .ref (u11 17), .ref (u11 18), .int 0, .ref (u11 19), .int 0, .int 0, .int 0, .ref (u11 20), .int 0, .int 0, .ref (u11 21), .int 0, .ref (u11 60), .ref (u11 22), .ref (u11 23), .ref (u11 24), .ref (u11 61), .ref (u11 25), .ref (u11 26), .ref (u11 62), .ref (u11 63), .ref (u11 64), .ref (u11 27), .ref (u11 28), .ref (u11 29), .ref (u11 30), .ref (u11 31), .ref (u11 32), .ref (u11 33), .ref (u11 34), .ref (u11 35), .ref (u11 36), .ref (u11 37), .ref (u11 38), .ref (u11 65), .int 0, .int 0, .int 0, .int 0, .int 0, .long 0, .int 0, .int 0, .int 0, .int 0, .int 0, .int (-1), .int 0, .ref (u11 39), .ref (u11 40), .ref (u11 41), .ref (u11 42), .ref (u11 43), .int 0, .int 0, .ref (u11 44), .ref (u11 45), .ref (u11 46), .ref (u11 47), .ref (u11 48), .ref (u11 49), .ref (u11 50), .ref (u11 51), .int 0, .int 0, .int 0, .int 0, .ref (u11 52), .ref (u11 53), .int 0, .ref (u11 54), .ref (u11 55), .ref (u11 56), .ref (u11 57), .ref (u11 58), .ref (u11 59)]))]) [(q1, .inr (11, [.ref (u3 0), .ref (u3 7), .ref (u3 16), .ref (u3 17), .ref (u3 24), .ref (u3 27), .ref (u3 30), .ref (u3 33), .ref (u3 62), .ref (u3 77), .ref (u3 50)])), (u3 24, .inr (1, [.ref (u3 7), .ref (u3 17), .ref (u3 16), .ref (u3 25), .ref (u3 26), .int 0, .int 0])), (u3 17, .inr (3, [.ref (u3 18), .ref (u3 19), .ref (u3 20), .ref (u3 21), .ref (u3 22), .ref (u3 23), .int 0, .int (-1), .int 1, .int 0])), (u3 22, .inl (K 0, 24, .inl (fun _ => 0))), (u3 23, .inl (K 0, 24, .inl (fun _ => 0))), (u3 7, .inr (4, [.ref (u3 0), .ref (u3 8), .ref (u3 9), .ref (u3 10), .ref (u3 11), .ref (u3 12), .ref (u3 13), .ref (u3 14), .ref (u3 15), .int 0])), (u3 25, .inl (K 0, 12, .inl (fun _ => 0))), (u3 26, .inl (K 0, 12, .inl (fun _ => 0)))] B hl.1 hP hD hS [0, 5, 2, 3, 4, 1, 6, 7] [8] rfl rfl rfl (kX11_groups_99 l D K _ q1 (u3 24) (u3 17) (u3 22) (u3 23) (u3 7) (u3 25) (u3 26) (u3 0) (u3 16) (u3 27) (u3 30) (u3 33) (u3 62) (u3 77) (u3 50) (u3 18) (u3 19) (u3 20) (u3 21) (fun _ => 0) (fun _ => 0) (u3 8) (u3 9) (u3 10) (u3 11) (u3 12) (u3 13) (u3 14) (u3 15) (fun _ => 0) (fun _ => 0) (xs 1) (xs 2) (xs 3) (xs 4)) wd_X11_groups mml_L_81 rfl rfl rfl rfl ⟨Nat.le_of_ble_eq_true rfl, Nat.le_of_ble_eq_true rfl⟩ (Nat.le_of_ble_eq_true rfl) ⟨Nat.le_of_ble_eq_true rfl, Nat.le_of_ble_eq_true rfl⟩ dL_law_825 (fun r245 u H locs hw hP hD hS => ?_)
      try dsimp only at hw
      rcases hw with ⟨rfl, w246⟩ | ⟨rfl, w247⟩
      · have hP : va_P D vwCl [(q9, .inr (12, [.int 0, .int 4, .int 4, .ref (u11 0), .ref (u11 1), .ref (u11 2), .ref (u11 3), .int 0, .ref (u11 4), .ref (u11 5), .int 0, .ref (u11 6), .ref (u11 7), .ref (u11 8), .ref (u11 9), .ref (u11 10), .ref (u11 11), .ref (u11 12), .int 0, .ref (u11 13), .ref (u11 14), .ref (u11 15), .ref (u11 16), .ref (u11 17), .ref (u11 18), .int 0, .ref (u11 19), .int 0, .int 0, .int 0, .ref (u11 20), .int 0, .int 0, .ref (u11 21), .int 0, .ref (u11 60), .ref (u11 22), .ref (u11 23), .ref (u11 24), .ref (u11 61), .ref (u11 25), .ref (u11 26), .ref (u11 62), .ref (u11 63), .ref (u11 64), .ref (u11 27), .ref (u11 28), .ref (u11 29), .ref (u11 30), .ref (u11 31), .ref (u11 32), .ref (u11 33), .ref (u11 34), .ref (u11 35), .ref (u11 36), .ref (u11 37), .ref (u11 38), .ref (u11 65), .int 0, .int 0, .int 0, .int 0, .int 0, .long 0, .int 0, .int 0, .int 0, .int 0, .int 0, .int (-1), .int 0, .ref (u11 39), .ref (u11 40), .ref (u11 41), .ref (u11 42), .ref (u11 43), .int 0, .int 0, .ref (u11 44), .ref (u11 45), .ref (u11 46), .ref (u11 47), .ref (u11 48), .ref (u11 49), .ref (u11 50), .ref (u11 51), .int 0, .int 0, .int 0, .int 0, .ref (u11 52), .ref (u11 53), .int 0, .ref (u11 54), .ref (u11 55), .ref (u11 56), .ref (u11 57), .ref (u11 58), .ref (u11 59)]))] H := hP
        have hD : va_D A [(q9, .inr (12, [.int 0, .int 4, .int 4, .ref (u11 0), .ref (u11 1), .ref (u11 2), .ref (u11 3), .int 0, .ref (u11 4), .ref (u11 5), .int 0, .ref (u11 6), .ref (u11 7), .ref (u11 8), .ref (u11 9), .ref (u11 10), .ref (u11 11), .ref (u11 12), .int 0, .ref (u11 13), .ref (u11 14), .ref (u11 15), .ref (u11 16), .ref (u11 17), .ref (u11 18), .int 0, .ref (u11 19), .int 0, .int 0, .int 0, .ref (u11 20), .int 0, .int 0, .ref (u11 21), .int 0, .ref (u11 60), .ref (u11 22), .ref (u11 23), .ref (u11 24), .ref (u11 61), .ref (u11 25), .ref (u11 26), .ref (u11 62), .ref (u11 63), .ref (u11 64), .ref (u11 27), .ref (u11 28), .ref (u11 29), .ref (u11 30), .ref (u11 31), .ref (u11 32), .ref (u11 33), .ref (u11 34), .ref (u11 35), .ref (u11 36), .ref (u11 37), .ref (u11 38), .ref (u11 65), .int 0, .int 0, .int 0, .int 0, .int 0, .long 0, .int 0, .int 0, .int 0, .int 0, .int 0, .int (-1), .int 0, .ref (u11 39), .ref (u11 40), .ref (u11 41), .ref (u11 42), .ref (u11 43), .int 0, .int 0, .ref (u11 44), .ref (u11 45), .ref (u11 46), .ref (u11 47), .ref (u11 48), .ref (u11 49), .ref (u11 50), .ref (u11 51), .int 0, .int 0, .int 0, .int 0, .ref (u11 52), .ref (u11 53), .int 0, .ref (u11 54), .ref (u11 55), .ref (u11 56), .ref (u11 57), .ref (u11 58), .ref (u11 59)]))] := hD
        refine lv_aload_n hx hb dL_law_828 rfl (lv_at hl 1 rfl) ?_
        refine lv_aload_n hx hb dL_law_829 rfl (lv_at hl 3 rfl) ?_
        refine lv_pc (q := 830) rfl ?_
        refine lv_iload_n hx hb dL_law_830 rfl (lv_at hl 0 rfl) ?_
        refine lv_iconst (v := 1) hx hb dL_law_831 (by decide) ?_
        refine lv_iadd hx hb dL_law_832 ?_
        refine lv_fixi (y := 1) (by decide) ?_
        refine va_sld (i := 1) hx hb hX hbl hbA hS (by show ¬ (_ ∨ _); decide) dL_law_833 ?_
        refine lv_fixi (y := (xs 1)) rfl ?_
        refine lv_aload_n hx hb dL_law_834 rfl (lv_at hl 3 rfl) ?_
        refine lv_iload_n hx hb dL_law_835 rfl (lv_at hl 0 rfl) ?_
        refine lv_pc (q := 836) rfl ?_
        refine lv_iconst (v := 2) hx hb dL_law_836 (by decide) ?_
        refine lv_iadd hx hb dL_law_837 ?_
        refine lv_fixi (y := 2) (by decide) ?_
        refine va_sld (i := 2) hx hb hX hbl hbA hS (by show ¬ (_ ∨ _); decide) dL_law_838 ?_
        refine lv_fixi (y := (xs 2)) rfl ?_
        refine lv_aload_n hx hb dL_law_839 rfl (lv_at hl 3 rfl) ?_
        refine lv_iload_n hx hb dL_law_840 rfl (lv_at hl 0 rfl) ?_
        refine lv_iconst (v := 3) hx hb dL_law_841 (by decide) ?_
        refine lv_pc (q := 842) rfl ?_
        refine lv_iadd hx hb dL_law_842 ?_
        refine lv_fixi (y := 3) (by decide) ?_
        refine va_sld (i := 3) hx hb hX hbl hbA hS (by show ¬ (_ ∨ _); decide) dL_law_843 ?_
        refine lv_fixi (y := (xs 3)) rfl ?_
        refine lv_aload_n hx hb dL_law_844 rfl (lv_at hl 3 rfl) ?_
        refine lv_iload_n hx hb dL_law_845 rfl (lv_at hl 0 rfl) ?_
        refine lv_iconst (v := 4) hx hb dL_law_846 (by decide) ?_
        refine lv_iadd hx hb dL_law_847 ?_
        refine lv_fixi (y := 4) (by decide) ?_
        refine lv_pc (q := 848) rfl ?_
        refine va_sld (i := 4) hx hb hX hbl hbA hS (by show ¬ (_ ∨ _); decide) dL_law_848 ?_
        refine lv_fixi (y := (xs 4)) rfl ?_
        refine uVi (As := [.int (xs 1), .int (xs 2), .int (xs 3), .int (xs 4)]) (rest := [.int (-1)]) (wr := []) [(q9, .inr (12, [.int 0, .int 4, .int 4, .ref (u11 0), .ref (u11 1), .ref (u11 2), .ref (u11 3), .int 0, .ref (u11 4), .ref (u11 5), .int 0, .ref (u11 6), .ref (u11 7), .ref (u11 8), .ref (u11 9), .ref (u11 10), .ref (u11 11), .ref (u11 12), .int 0, .ref (u11 13), .ref (u11 14), .ref (u11 15), .ref (u11 16), .ref (u11 17), .ref (u11 18), .int 0, .ref (u11 19), .int 0, .int 0, .int 0, .ref (u11 20), .int 0, .int 0, .ref (u11 21), .int 0, .ref (u11 60), .ref (u11 22), .ref (u11 23), .ref (u11 24), .ref (u11 61), .ref (u11 25), .ref (u11 26), .ref (u11 62), .ref (u11 63), .ref (u11 64), .ref (u11 27), .ref (u11 28), .ref (u11 29), .ref (u11 30), .ref (u11 31), .ref (u11 32), .ref (u11 33), .ref (u11 34), .ref (u11 35), .ref (u11 36), .ref (u11 37), .ref (u11 38), .ref (u11 65), .int 0, .int 0, .int 0, .int 0, .int 0, .long 0, .int 0, .int 0, .int 0, .int 0, .int 0, .int (-1), .int 0, .ref (u11 39), .ref (u11 40), .ref (u11 41), .ref (u11 42), .ref (u11 43), .int 0, .int 0, .ref (u11 44), .ref (u11 45), .ref (u11 46), .ref (u11 47), .ref (u11 48), .ref (u11 49), .ref (u11 50), .ref (u11 51), .int 0, .int 0, .int 0, .int 0, .ref (u11 52), .ref (u11 53), .int 0, .ref (u11 54), .ref (u11 55), .ref (u11 56), .ref (u11 57), .ref (u11 58), .ref (u11 59)]))] B hl.1 hP hD hS [0] [] rfl rfl rfl (kX12_groups_104 l D K _ q9 (u11 0) (u11 1) (u11 2) (u11 3) (u11 4) (u11 5) (u11 6) (u11 7) (u11 8) (u11 9) (u11 10) (u11 11) (u11 12) (u11 13) (u11 14) (u11 15) (u11 16) (u11 17) (u11 18) (u11 19) (u11 20) (u11 21) (u11 60) (u11 22) (u11 23) (u11 24) (u11 61) (u11 25) (u11 26) (u11 62) (u11 63) (u11 64) (u11 27) (u11 28) (u11 29) (u11 30) (u11 31) (u11 32) (u11 33) (u11 34) (u11 35) (u11 36) (u11 37) (u11 38) (u11 65) (u11 39) (u11 40) (u11 41) (u11 42) (u11 43) (u11 44) (u11 45) (u11 46) (u11 47) (u11 48) (u11 49) (u11 50) (u11 51) (u11 52) (u11 53) (u11 54) (u11 55) (u11 56) (u11 57) (u11 58) (u11 59) (xs 1) (xs 2) (xs 3) (xs 4)) wd_X12_groups mml_L_84 rfl rfl rfl rfl ⟨Nat.le_of_ble_eq_true rfl, Nat.le_of_ble_eq_true rfl⟩ (Nat.le_of_ble_eq_true rfl) ⟨Nat.le_of_ble_eq_true rfl, Nat.le_of_ble_eq_true rfl⟩ dL_law_849 (fun r248 u H locs hw hP hD hS => ?_)
        try dsimp only at hw
        rcases hw with ⟨rfl, w249⟩ | ⟨rfl, ⟨w250, w251, w252, w253, w254, w255, w256⟩⟩
        · have hP : va_P D vwCl [] H := hP
          have hD : va_D A [] := hD
          refine lv_icmp_eq (tgt := 1474) hx hb dL_law_852 (by decide) (fun _ => ?_) (fun h9 => absurd (by decide) h9)
          refine lv_iinc (v := 7) (lv' := [(3, .int 7), (2, .ref q9), (1, .ref q1), (0, .ref b)]) hx hb dL_law_1474 hl (k := 0) rfl (by decide) (by decide) rfl (fun ls hl => ?_)
          refine lv_goto (tgt := 18) hx hb dL_law_1477 (by decide) ?_
          refine lv_iload_n hx hb dL_law_18 rfl (lv_at hl 0 rfl) ?_
          refine lv_pc (q := 19) rfl ?_
          refine lv_aload_n hx hb dL_law_19 rfl (lv_at hl 3 rfl) ?_
          refine va_slen hx hb hX hbl hbA hS dL_law_20 ?_
          refine lv_fixi (y := 7) (by decide) ?_
          refine lv_bipush (v := 7) hx hb dL_law_21 (by decide) ?_
          refine lv_isub hx hb dL_law_23 ?_
          refine lv_fixi (y := 0) (by decide) ?_
          refine lv_icmp_gt (tgt := 1480) hx hb dL_law_24 (by decide) (fun _ => ?_) (fun h9 => absurd (by decide) h9)
          refine lv_iconst (v := 1) hx hb dL_law_1480 (by decide) ?_
          refine lv_pc (q := 1481) rfl ?_
          refine va_forget (fun q hq => by have h9 := hS.2.2 q hq; rw [hAe] at h9; exact h9) ?_
          refine W.widen (k := 600000) (n := 7302250) (by decide) (by decide) ?_
          exact lw_ret hx hb hr hlocks dL_law_1481
        have hP : va_P D vwCl [] H := hP
        have hD : va_D A [] := hD
        exfalso
        try simp only [fa_lt, fa_le, fa_eq, Int32.reduceToInt] at w246 w250 w251 w252 w253 w254 w255 w256
        omega
      have hP : va_P D vwCl [(q9, .inr (12, [.int 0, .int 4, .int 4, .ref (u11 0), .ref (u11 1), .ref (u11 2), .ref (u11 3), .int 0, .ref (u11 4), .ref (u11 5), .int 0, .ref (u11 6), .ref (u11 7), .ref (u11 8), .ref (u11 9), .ref (u11 10), .ref (u11 11), .ref (u11 12), .int 0, .ref (u11 13), .ref (u11 14), .ref (u11 15), .ref (u11 16), .ref (u11 17), .ref (u11 18), .int 0, .ref (u11 19), .int 0, .int 0, .int 0, .ref (u11 20), .int 0, .int 0, .ref (u11 21), .int 0, .ref (u11 60), .ref (u11 22), .ref (u11 23), .ref (u11 24), .ref (u11 61), .ref (u11 25), .ref (u11 26), .ref (u11 62), .ref (u11 63), .ref (u11 64), .ref (u11 27), .ref (u11 28), .ref (u11 29), .ref (u11 30), .ref (u11 31), .ref (u11 32), .ref (u11 33), .ref (u11 34), .ref (u11 35), .ref (u11 36), .ref (u11 37), .ref (u11 38), .ref (u11 65), .int 0, .int 0, .int 0, .int 0, .int 0, .long 0, .int 0, .int 0, .int 0, .int 0, .int 0, .int (-1), .int 0, .ref (u11 39), .ref (u11 40), .ref (u11 41), .ref (u11 42), .ref (u11 43), .int 0, .int 0, .ref (u11 44), .ref (u11 45), .ref (u11 46), .ref (u11 47), .ref (u11 48), .ref (u11 49), .ref (u11 50), .ref (u11 51), .int 0, .int 0, .int 0, .int 0, .ref (u11 52), .ref (u11 53), .int 0, .ref (u11 54), .ref (u11 55), .ref (u11 56), .ref (u11 57), .ref (u11 58), .ref (u11 59)]))] H := hP
      have hD : va_D A [(q9, .inr (12, [.int 0, .int 4, .int 4, .ref (u11 0), .ref (u11 1), .ref (u11 2), .ref (u11 3), .int 0, .ref (u11 4), .ref (u11 5), .int 0, .ref (u11 6), .ref (u11 7), .ref (u11 8), .ref (u11 9), .ref (u11 10), .ref (u11 11), .ref (u11 12), .int 0, .ref (u11 13), .ref (u11 14), .ref (u11 15), .ref (u11 16), .ref (u11 17), .ref (u11 18), .int 0, .ref (u11 19), .int 0, .int 0, .int 0, .ref (u11 20), .int 0, .int 0, .ref (u11 21), .int 0, .ref (u11 60), .ref (u11 22), .ref (u11 23), .ref (u11 24), .ref (u11 61), .ref (u11 25), .ref (u11 26), .ref (u11 62), .ref (u11 63), .ref (u11 64), .ref (u11 27), .ref (u11 28), .ref (u11 29), .ref (u11 30), .ref (u11 31), .ref (u11 32), .ref (u11 33), .ref (u11 34), .ref (u11 35), .ref (u11 36), .ref (u11 37), .ref (u11 38), .ref (u11 65), .int 0, .int 0, .int 0, .int 0, .int 0, .long 0, .int 0, .int 0, .int 0, .int 0, .int 0, .int (-1), .int 0, .ref (u11 39), .ref (u11 40), .ref (u11 41), .ref (u11 42), .ref (u11 43), .int 0, .int 0, .ref (u11 44), .ref (u11 45), .ref (u11 46), .ref (u11 47), .ref (u11 48), .ref (u11 49), .ref (u11 50), .ref (u11 51), .int 0, .int 0, .int 0, .int 0, .ref (u11 52), .ref (u11 53), .int 0, .ref (u11 54), .ref (u11 55), .ref (u11 56), .ref (u11 57), .ref (u11 58), .ref (u11 59)]))] := hD
      refine lv_aload_n hx hb dL_law_828 rfl (lv_at hl 1 rfl) ?_
      refine lv_aload_n hx hb dL_law_829 rfl (lv_at hl 3 rfl) ?_
      refine lv_pc (q := 830) rfl ?_
      refine lv_iload_n hx hb dL_law_830 rfl (lv_at hl 0 rfl) ?_
      refine lv_iconst (v := 1) hx hb dL_law_831 (by decide) ?_
      refine lv_iadd hx hb dL_law_832 ?_
      refine lv_fixi (y := 1) (by decide) ?_
      refine va_sld (i := 1) hx hb hX hbl hbA hS (by show ¬ (_ ∨ _); decide) dL_law_833 ?_
      refine lv_fixi (y := (xs 1)) rfl ?_
      refine lv_aload_n hx hb dL_law_834 rfl (lv_at hl 3 rfl) ?_
      refine lv_iload_n hx hb dL_law_835 rfl (lv_at hl 0 rfl) ?_
      refine lv_pc (q := 836) rfl ?_
      refine lv_iconst (v := 2) hx hb dL_law_836 (by decide) ?_
      refine lv_iadd hx hb dL_law_837 ?_
      refine lv_fixi (y := 2) (by decide) ?_
      refine va_sld (i := 2) hx hb hX hbl hbA hS (by show ¬ (_ ∨ _); decide) dL_law_838 ?_
      refine lv_fixi (y := (xs 2)) rfl ?_
      refine lv_aload_n hx hb dL_law_839 rfl (lv_at hl 3 rfl) ?_
      refine lv_iload_n hx hb dL_law_840 rfl (lv_at hl 0 rfl) ?_
      refine lv_iconst (v := 3) hx hb dL_law_841 (by decide) ?_
      refine lv_pc (q := 842) rfl ?_
      refine lv_iadd hx hb dL_law_842 ?_
      refine lv_fixi (y := 3) (by decide) ?_
      refine va_sld (i := 3) hx hb hX hbl hbA hS (by show ¬ (_ ∨ _); decide) dL_law_843 ?_
      refine lv_fixi (y := (xs 3)) rfl ?_
      refine lv_aload_n hx hb dL_law_844 rfl (lv_at hl 3 rfl) ?_
      refine lv_iload_n hx hb dL_law_845 rfl (lv_at hl 0 rfl) ?_
      refine lv_iconst (v := 4) hx hb dL_law_846 (by decide) ?_
      refine lv_iadd hx hb dL_law_847 ?_
      refine lv_fixi (y := 4) (by decide) ?_
      refine lv_pc (q := 848) rfl ?_
      refine va_sld (i := 4) hx hb hX hbl hbA hS (by show ¬ (_ ∨ _); decide) dL_law_848 ?_
      refine lv_fixi (y := (xs 4)) rfl ?_
      refine uVi (As := [.int (xs 1), .int (xs 2), .int (xs 3), .int (xs 4)]) (rest := [.int 0]) (wr := []) [(q9, .inr (12, [.int 0, .int 4, .int 4, .ref (u11 0), .ref (u11 1), .ref (u11 2), .ref (u11 3), .int 0, .ref (u11 4), .ref (u11 5), .int 0, .ref (u11 6), .ref (u11 7), .ref (u11 8), .ref (u11 9), .ref (u11 10), .ref (u11 11), .ref (u11 12), .int 0, .ref (u11 13), .ref (u11 14), .ref (u11 15), .ref (u11 16), .ref (u11 17), .ref (u11 18), .int 0, .ref (u11 19), .int 0, .int 0, .int 0, .ref (u11 20), .int 0, .int 0, .ref (u11 21), .int 0, .ref (u11 60), .ref (u11 22), .ref (u11 23), .ref (u11 24), .ref (u11 61), .ref (u11 25), .ref (u11 26), .ref (u11 62), .ref (u11 63), .ref (u11 64), .ref (u11 27), .ref (u11 28), .ref (u11 29), .ref (u11 30), .ref (u11 31), .ref (u11 32), .ref (u11 33), .ref (u11 34), .ref (u11 35), .ref (u11 36), .ref (u11 37), .ref (u11 38), .ref (u11 65), .int 0, .int 0, .int 0, .int 0, .int 0, .long 0, .int 0, .int 0, .int 0, .int 0, .int 0, .int (-1), .int 0, .ref (u11 39), .ref (u11 40), .ref (u11 41), .ref (u11 42), .ref (u11 43), .int 0, .int 0, .ref (u11 44), .ref (u11 45), .ref (u11 46), .ref (u11 47), .ref (u11 48), .ref (u11 49), .ref (u11 50), .ref (u11 51), .int 0, .int 0, .int 0, .int 0, .ref (u11 52), .ref (u11 53), .int 0, .ref (u11 54), .ref (u11 55), .ref (u11 56), .ref (u11 57), .ref (u11 58), .ref (u11 59)]))] B hl.1 hP hD hS [0] [] rfl rfl rfl (kX12_groups_104 l D K _ q9 (u11 0) (u11 1) (u11 2) (u11 3) (u11 4) (u11 5) (u11 6) (u11 7) (u11 8) (u11 9) (u11 10) (u11 11) (u11 12) (u11 13) (u11 14) (u11 15) (u11 16) (u11 17) (u11 18) (u11 19) (u11 20) (u11 21) (u11 60) (u11 22) (u11 23) (u11 24) (u11 61) (u11 25) (u11 26) (u11 62) (u11 63) (u11 64) (u11 27) (u11 28) (u11 29) (u11 30) (u11 31) (u11 32) (u11 33) (u11 34) (u11 35) (u11 36) (u11 37) (u11 38) (u11 65) (u11 39) (u11 40) (u11 41) (u11 42) (u11 43) (u11 44) (u11 45) (u11 46) (u11 47) (u11 48) (u11 49) (u11 50) (u11 51) (u11 52) (u11 53) (u11 54) (u11 55) (u11 56) (u11 57) (u11 58) (u11 59) (xs 1) (xs 2) (xs 3) (xs 4)) wd_X12_groups mml_L_84 rfl rfl rfl rfl ⟨Nat.le_of_ble_eq_true rfl, Nat.le_of_ble_eq_true rfl⟩ (Nat.le_of_ble_eq_true rfl) ⟨Nat.le_of_ble_eq_true rfl, Nat.le_of_ble_eq_true rfl⟩ dL_law_849 (fun r257 u H locs hw hP hD hS => ?_)
      try dsimp only at hw
      rcases hw with ⟨rfl, w258⟩ | ⟨rfl, ⟨w259, w260, w261, w262, w263, w264, w265⟩⟩
      · have hP : va_P D vwCl [] H := hP
        have hD : va_D A [] := hD
        exfalso
        try simp only [fa_lt, fa_le, fa_eq, Int32.reduceToInt] at w247 w258
        omega
      have hP : va_P D vwCl [] H := hP
      have hD : va_D A [] := hD
      refine lv_icmp_eq (tgt := 1474) hx hb dL_law_852 (by decide) (fun _ => ?_) (fun h9 => absurd (by decide) h9)
      refine lv_iinc (v := 7) (lv' := [(3, .int 7), (2, .ref q9), (1, .ref q1), (0, .ref b)]) hx hb dL_law_1474 hl (k := 0) rfl (by decide) (by decide) rfl (fun ls hl => ?_)
      refine lv_goto (tgt := 18) hx hb dL_law_1477 (by decide) ?_
      refine lv_iload_n hx hb dL_law_18 rfl (lv_at hl 0 rfl) ?_
      refine lv_pc (q := 19) rfl ?_
      refine lv_aload_n hx hb dL_law_19 rfl (lv_at hl 3 rfl) ?_
      refine va_slen hx hb hX hbl hbA hS dL_law_20 ?_
      refine lv_fixi (y := 7) (by decide) ?_
      refine lv_bipush (v := 7) hx hb dL_law_21 (by decide) ?_
      refine lv_isub hx hb dL_law_23 ?_
      refine lv_fixi (y := 0) (by decide) ?_
      refine lv_icmp_gt (tgt := 1480) hx hb dL_law_24 (by decide) (fun _ => ?_) (fun h9 => absurd (by decide) h9)
      refine lv_iconst (v := 1) hx hb dL_law_1480 (by decide) ?_
      refine lv_pc (q := 1481) rfl ?_
      refine va_forget (fun q hq => by have h9 := hS.2.2 q hq; rw [hAe] at h9; exact h9) ?_
      refine W.widen (k := 600000) (n := 7302250) (by decide) (by decide) ?_
      exact lw_ret hx hb hr hlocks dL_law_1481
    · refine lv_fixi (y := 15) ejj ?_
      refine lv_tableIn (off := 824) (tgt := 857) hx hb dL_law_33 (by decide) (by decide) rfl (by decide) ?_
      replace hP := uSub (wc := [(q1, .inr (11, [.ref (u3 0), .ref (u3 7), .ref (u3 16), .ref (u3 17), .ref (u3 24), .ref (u3 27), .ref (u3 30), .ref (u3 33), .ref (u3 62), .ref (u3 77), .ref (u3 50)])), (u3 7, .inr (4, [.ref (u3 0), .ref (u3 8), .ref (u3 9), .ref (u3 10), .ref (u3 11), .ref (u3 12), .ref (u3 13), .ref (u3 14), .ref (u3 15), .int 0])), (u3 17, .inr (3, [.ref (u3 18), .ref (u3 19), .ref (u3 20), .ref (u3 21), .ref (u3 22), .ref (u3 23), .int 0, .int (-1), .int 1, .int 0])), (u3 22, .inl (K 0, 24, .inl (fun _ => 0))), (u3 23, .inl (K 0, 24, .inl (fun _ => 0))), (u3 24, .inr (1, [.ref (u3 7), .ref (u3 17), .ref (u3 16), .ref (u3 25), .ref (u3 26), .int 0, .int 0])), (u3 25, .inl (K 0, 12, .inl (fun _ => 0))), (u3 26, .inl (K 0, 12, .inl (fun _ => 0))), (q9, .inr (12, [.int 0, .int 4, .int 4, .ref (u11 0), .ref (u11 1), .ref (u11 2), .ref (u11 3), .int 0, .ref (u11 4), .ref (u11 5), .int 0, .ref (u11 6), .ref (u11 7), .ref (u11 8), .ref (u11 9), .ref (u11 10), .ref (u11 11), .ref (u11 12), .int 0, .ref (u11 13), .ref (u11 14), .ref (u11 15), .ref (u11 16), .ref (u11 17), .ref (u11 18), .int 0, .ref (u11 19), .int 0, .int 0, .int 0, .ref (u11 20), .int 0, .int 0, .ref (u11 21), .int 0, .ref (u11 60), .ref (u11 22), .ref (u11 23), .ref (u11 24), .ref (u11 61), .ref (u11 25), .ref (u11 26), .ref (u11 62), .ref (u11 63), .ref (u11 64), .ref (u11 27), .ref (u11 28), .ref (u11 29), .ref (u11 30), .ref (u11 31), .ref (u11 32), .ref (u11 33), .ref (u11 34), .ref (u11 35), .ref (u11 36), .ref (u11 37), .ref (u11 38), .ref (u11 65), .int 0, .int 0, .int 0, .int 0, .int 0, .long 0, .int 0, .int 0, .int 0, .int 0, .int 0, .int (-1), .int 0, .ref (u11 39), .ref (u11 40), .ref (u11 41), .ref (u11 42), .ref (u11 43), .int 0, .int 0, .ref (u11 44), .ref (u11 45), .ref (u11 46), .ref (u11 47), .ref (u11 48), .ref (u11 49), .ref (u11 50), .ref (u11 51), .int 0, .int 0, .int 0, .int 0, .ref (u11 52), .ref (u11 53), .int 0, .ref (u11 54), .ref (u11 55), .ref (u11 56), .ref (u11 57), .ref (u11 58), .ref (u11 59)]))]) hP [0, 8, 18, 23, 24, 25, 26, 27, 97] rfl
      replace hD := hD.sub (ws' := [(q1, .inr (11, [.ref (u3 0), .ref (u3 7), .ref (u3 16), .ref (u3 17), .ref (u3 24), .ref (u3 27), .ref (u3 30), .ref (u3 33), .ref (u3 62), .ref (u3 77), .ref (u3 50)])), (u3 7, .inr (4, [.ref (u3 0), .ref (u3 8), .ref (u3 9), .ref (u3 10), .ref (u3 11), .ref (u3 12), .ref (u3 13), .ref (u3 14), .ref (u3 15), .int 0])), (u3 17, .inr (3, [.ref (u3 18), .ref (u3 19), .ref (u3 20), .ref (u3 21), .ref (u3 22), .ref (u3 23), .int 0, .int (-1), .int 1, .int 0])), (u3 22, .inl (K 0, 24, .inl (fun _ => 0))), (u3 23, .inl (K 0, 24, .inl (fun _ => 0))), (u3 24, .inr (1, [.ref (u3 7), .ref (u3 17), .ref (u3 16), .ref (u3 25), .ref (u3 26), .int 0, .int 0])), (u3 25, .inl (K 0, 12, .inl (fun _ => 0))), (u3 26, .inl (K 0, 12, .inl (fun _ => 0))), (q9, .inr (12, [.int 0, .int 4, .int 4, .ref (u11 0), .ref (u11 1), .ref (u11 2), .ref (u11 3), .int 0, .ref (u11 4), .ref (u11 5), .int 0, .ref (u11 6), .ref (u11 7), .ref (u11 8), .ref (u11 9), .ref (u11 10), .ref (u11 11), .ref (u11 12), .int 0, .ref (u11 13), .ref (u11 14), .ref (u11 15), .ref (u11 16), .ref (u11 17), .ref (u11 18), .int 0, .ref (u11 19), .int 0, .int 0, .int 0, .ref (u11 20), .int 0, .int 0, .ref (u11 21), .int 0, .ref (u11 60), .ref (u11 22), .ref (u11 23), .ref (u11 24), .ref (u11 61), .ref (u11 25), .ref (u11 26), .ref (u11 62), .ref (u11 63), .ref (u11 64), .ref (u11 27), .ref (u11 28), .ref (u11 29), .ref (u11 30), .ref (u11 31), .ref (u11 32), .ref (u11 33), .ref (u11 34), .ref (u11 35), .ref (u11 36), .ref (u11 37), .ref (u11 38), .ref (u11 65), .int 0, .int 0, .int 0, .int 0, .int 0, .long 0, .int 0, .int 0, .int 0, .int 0, .int 0, .int (-1), .int 0, .ref (u11 39), .ref (u11 40), .ref (u11 41), .ref (u11 42), .ref (u11 43), .int 0, .int 0, .ref (u11 44), .ref (u11 45), .ref (u11 46), .ref (u11 47), .ref (u11 48), .ref (u11 49), .ref (u11 50), .ref (u11 51), .int 0, .int 0, .int 0, .int 0, .ref (u11 52), .ref (u11 53), .int 0, .ref (u11 54), .ref (u11 55), .ref (u11 56), .ref (u11 57), .ref (u11 58), .ref (u11 59)]))]) [0, 8, 18, 23, 24, 25, 26, 27, 97] rfl rfl
      refine lv_pc (q := 857) rfl ?_
      refine lv_aload_n hx hb dL_law_857 rfl (lv_at hl 2 rfl) ?_
      refine lv_aload_n hx hb dL_law_858 rfl (lv_at hl 3 rfl) ?_
      refine lv_iload_n hx hb dL_law_859 rfl (lv_at hl 0 rfl) ?_
      refine lv_iconst (v := 1) hx hb dL_law_860 (by decide) ?_
      refine lv_iadd hx hb dL_law_861 ?_
      refine lv_fixi (y := 1) (by decide) ?_
      refine va_sld (i := 1) hx hb hX hbl hbA hS (by show ¬ (_ ∨ _); decide) dL_law_862 ?_
      refine lv_fixi (y := (xs 1)) rfl ?_
      refine lv_pc (q := 863) rfl ?_
      refine lv_aload_n hx hb dL_law_863 rfl (lv_at hl 3 rfl) ?_
      refine lv_iload_n hx hb dL_law_864 rfl (lv_at hl 0 rfl) ?_
      refine lv_iconst (v := 2) hx hb dL_law_865 (by decide) ?_
      refine lv_iadd hx hb dL_law_866 ?_
      refine lv_fixi (y := 2) (by decide) ?_
      refine va_sld (i := 2) hx hb hX hbl hbA hS (by show ¬ (_ ∨ _); decide) dL_law_867 ?_
      refine lv_fixi (y := (xs 2)) rfl ?_
      refine lv_aload_n hx hb dL_law_868 rfl (lv_at hl 3 rfl) ?_
      refine lv_pc (q := 869) rfl ?_
      refine lv_iload_n hx hb dL_law_869 rfl (lv_at hl 0 rfl) ?_
      refine lv_iconst (v := 3) hx hb dL_law_870 (by decide) ?_
      refine lv_iadd hx hb dL_law_871 ?_
      refine lv_fixi (y := 3) (by decide) ?_
      refine va_sld (i := 3) hx hb hX hbl hbA hS (by show ¬ (_ ∨ _); decide) dL_law_872 ?_
      refine lv_fixi (y := (xs 3)) rfl ?_
      refine lv_aload_n hx hb dL_law_873 rfl (lv_at hl 3 rfl) ?_
      refine lv_iload_n hx hb dL_law_874 rfl (lv_at hl 0 rfl) ?_
      refine lv_pc (q := 875) rfl ?_
      refine lv_iconst (v := 4) hx hb dL_law_875 (by decide) ?_
      refine lv_iadd hx hb dL_law_876 ?_
      refine lv_fixi (y := 4) (by decide) ?_
      refine va_sld (i := 4) hx hb hX hbl hbA hS (by show ¬ (_ ∨ _); decide) dL_law_877 ?_
      refine lv_fixi (y := (xs 4)) rfl ?_
      refine uVi (As := [.int (xs 1), .int (xs 2), .int (xs 3), .int (xs 4)]) (rest := []) (wr := [(q9, .inr (12, [.int 0, .int 4, .int 4, .ref (u11 0), .ref (u11 1), .ref (u11 2), .ref (u11 3), .int 0, .ref (u11 4), .ref (u11 5), .int 0, .ref (u11 6), .ref (u11 7), .ref (u11 8), .ref (u11 9), .ref (u11 10), .ref (u11 11), .ref (u11 12), .int 0, .ref (u11 13), .ref (u11 14), .ref (u11 15), .ref (u11 16), .ref (u11 17), .ref (u11 18), .int 0, .ref (u11 19), .int 0, .int 0, .int 0, .ref (u11 20), .int 0, .int 0, .ref (u11 21), .int 0, .ref (u11 60), .ref (u11 22), .ref (u11 23), .ref (u11 24), .ref (u11 61), .ref (u11 25), .ref (u11 26), .ref (u11 62), .ref (u11 63), .ref (u11 64), .ref (u11 27), .ref (u11 28), .ref (u11 29), .ref (u11 30), .ref (u11 31), .ref (u11 32), .ref (u11 33), .ref (u11 34), .ref (u11 35), .ref (u11 36), .ref (u11 37), .ref (u11 38), .ref (u11 65), .int 0, .int 0, .int 0, .int 0, .int 0, .long 0, .int 0, .int 0, .int 0, .int 0, .int 0, .int (-1), .int 0, .ref (u11 39), .ref (u11 40), .ref (u11 41), .ref (u11 42), .ref (u11 43), .int 0, .int 0, .ref (u11 44), .ref (u11 45), .ref (u11 46), .ref (u11 47), .ref (u11 48), .ref (u11 49), .ref (u11 50), .ref (u11 51), .int 0, .int 0, .int 0, .int 0, .ref (u11 52), .ref (u11 53), .int 0, .ref (u11 54), .ref (u11 55), .ref (u11 56), .ref (u11 57), .ref (u11 58), .ref (u11 59)]))]) [(q1, .inr (11, [.ref (u3 0), .ref (u3 7), .ref (u3 16), .ref (u3 17), .ref (u3 24), .ref (u3 27), .ref (u3 30), .ref (u3 33), .ref (u3 62), .ref (u3 77), .ref (u3 50)])), (u3 24, .inr (1, [.ref (u3 7), .ref (u3 17), .ref (u3 16), .ref (u3 25), .ref (u3 26), .int 0, .int 0])), (u3 17, .inr (3, [.ref (u3 18), .ref (u3 19), .ref (u3 20), .ref (u3 21), .ref (u3 22), .ref (u3 23), .int 0, .int (-1), .int 1, .int 0])), (u3 22, .inl (K 0, 24, .inl (fun _ => 0))), (u3 23, .inl (K 0, 24, .inl (fun _ => 0))), (u3 7, .inr (4, [.ref (u3 0), .ref (u3 8), .ref (u3 9), .ref (u3 10), .ref (u3 11), .ref (u3 12), .ref (u3 13), .ref (u3 14), .ref (u3 15), .int 0])), (u3 25, .inl (K 0, 12, .inl (fun _ => 0))), (u3 26, .inl (K 0, 12, .inl (fun _ => 0)))] B hl.1 hP hD hS [0, 5, 2, 3, 4, 1, 6, 7] [8] rfl rfl rfl (kX11_cuts_106 l D K _ q1 (u3 24) (u3 17) (u3 22) (u3 23) (u3 7) (u3 25) (u3 26) (u3 0) (u3 16) (u3 27) (u3 30) (u3 33) (u3 62) (u3 77) (u3 50) (u3 18) (u3 19) (u3 20) (u3 21) (fun _ => 0) (fun _ => 0) (u3 8) (u3 9) (u3 10) (u3 11) (u3 12) (u3 13) (u3 14) (u3 15) (fun _ => 0) (fun _ => 0) (xs 1) (xs 2) (xs 3) (xs 4)) wd_X11_cuts mml_L_85 rfl rfl rfl rfl ⟨Nat.le_of_ble_eq_true rfl, Nat.le_of_ble_eq_true rfl⟩ (Nat.le_of_ble_eq_true rfl) ⟨Nat.le_of_ble_eq_true rfl, Nat.le_of_ble_eq_true rfl⟩ dL_law_878 (fun r266 u H locs hw hP hD hS => ?_)
      try dsimp only at hw
      rcases hw with ⟨rfl, w267⟩ | ⟨rfl, w268⟩
      · have hP : va_P D vwCl [(q9, .inr (12, [.int 0, .int 4, .int 4, .ref (u11 0), .ref (u11 1), .ref (u11 2), .ref (u11 3), .int 0, .ref (u11 4), .ref (u11 5), .int 0, .ref (u11 6), .ref (u11 7), .ref (u11 8), .ref (u11 9), .ref (u11 10), .ref (u11 11), .ref (u11 12), .int 0, .ref (u11 13), .ref (u11 14), .ref (u11 15), .ref (u11 16), .ref (u11 17), .ref (u11 18), .int 0, .ref (u11 19), .int 0, .int 0, .int 0, .ref (u11 20), .int 0, .int 0, .ref (u11 21), .int 0, .ref (u11 60), .ref (u11 22), .ref (u11 23), .ref (u11 24), .ref (u11 61), .ref (u11 25), .ref (u11 26), .ref (u11 62), .ref (u11 63), .ref (u11 64), .ref (u11 27), .ref (u11 28), .ref (u11 29), .ref (u11 30), .ref (u11 31), .ref (u11 32), .ref (u11 33), .ref (u11 34), .ref (u11 35), .ref (u11 36), .ref (u11 37), .ref (u11 38), .ref (u11 65), .int 0, .int 0, .int 0, .int 0, .int 0, .long 0, .int 0, .int 0, .int 0, .int 0, .int 0, .int (-1), .int 0, .ref (u11 39), .ref (u11 40), .ref (u11 41), .ref (u11 42), .ref (u11 43), .int 0, .int 0, .ref (u11 44), .ref (u11 45), .ref (u11 46), .ref (u11 47), .ref (u11 48), .ref (u11 49), .ref (u11 50), .ref (u11 51), .int 0, .int 0, .int 0, .int 0, .ref (u11 52), .ref (u11 53), .int 0, .ref (u11 54), .ref (u11 55), .ref (u11 56), .ref (u11 57), .ref (u11 58), .ref (u11 59)]))] H := hP
        have hD : va_D A [(q9, .inr (12, [.int 0, .int 4, .int 4, .ref (u11 0), .ref (u11 1), .ref (u11 2), .ref (u11 3), .int 0, .ref (u11 4), .ref (u11 5), .int 0, .ref (u11 6), .ref (u11 7), .ref (u11 8), .ref (u11 9), .ref (u11 10), .ref (u11 11), .ref (u11 12), .int 0, .ref (u11 13), .ref (u11 14), .ref (u11 15), .ref (u11 16), .ref (u11 17), .ref (u11 18), .int 0, .ref (u11 19), .int 0, .int 0, .int 0, .ref (u11 20), .int 0, .int 0, .ref (u11 21), .int 0, .ref (u11 60), .ref (u11 22), .ref (u11 23), .ref (u11 24), .ref (u11 61), .ref (u11 25), .ref (u11 26), .ref (u11 62), .ref (u11 63), .ref (u11 64), .ref (u11 27), .ref (u11 28), .ref (u11 29), .ref (u11 30), .ref (u11 31), .ref (u11 32), .ref (u11 33), .ref (u11 34), .ref (u11 35), .ref (u11 36), .ref (u11 37), .ref (u11 38), .ref (u11 65), .int 0, .int 0, .int 0, .int 0, .int 0, .long 0, .int 0, .int 0, .int 0, .int 0, .int 0, .int (-1), .int 0, .ref (u11 39), .ref (u11 40), .ref (u11 41), .ref (u11 42), .ref (u11 43), .int 0, .int 0, .ref (u11 44), .ref (u11 45), .ref (u11 46), .ref (u11 47), .ref (u11 48), .ref (u11 49), .ref (u11 50), .ref (u11 51), .int 0, .int 0, .int 0, .int 0, .ref (u11 52), .ref (u11 53), .int 0, .ref (u11 54), .ref (u11 55), .ref (u11 56), .ref (u11 57), .ref (u11 58), .ref (u11 59)]))] := hD
        refine lv_aload_n hx hb dL_law_881 rfl (lv_at hl 1 rfl) ?_
        refine lv_aload_n hx hb dL_law_882 rfl (lv_at hl 3 rfl) ?_
        refine lv_pc (q := 883) rfl ?_
        refine lv_iload_n hx hb dL_law_883 rfl (lv_at hl 0 rfl) ?_
        refine lv_iconst (v := 1) hx hb dL_law_884 (by decide) ?_
        refine lv_iadd hx hb dL_law_885 ?_
        refine lv_fixi (y := 1) (by decide) ?_
        refine va_sld (i := 1) hx hb hX hbl hbA hS (by show ¬ (_ ∨ _); decide) dL_law_886 ?_
        refine lv_fixi (y := (xs 1)) rfl ?_
        refine lv_aload_n hx hb dL_law_887 rfl (lv_at hl 3 rfl) ?_
        refine lv_iload_n hx hb dL_law_888 rfl (lv_at hl 0 rfl) ?_
        refine lv_pc (q := 889) rfl ?_
        refine lv_iconst (v := 2) hx hb dL_law_889 (by decide) ?_
        refine lv_iadd hx hb dL_law_890 ?_
        refine lv_fixi (y := 2) (by decide) ?_
        refine va_sld (i := 2) hx hb hX hbl hbA hS (by show ¬ (_ ∨ _); decide) dL_law_891 ?_
        refine lv_fixi (y := (xs 2)) rfl ?_
        refine lv_aload_n hx hb dL_law_892 rfl (lv_at hl 3 rfl) ?_
        refine lv_iload_n hx hb dL_law_893 rfl (lv_at hl 0 rfl) ?_
        refine lv_iconst (v := 3) hx hb dL_law_894 (by decide) ?_
        refine lv_pc (q := 895) rfl ?_
        refine lv_iadd hx hb dL_law_895 ?_
        refine lv_fixi (y := 3) (by decide) ?_
        refine va_sld (i := 3) hx hb hX hbl hbA hS (by show ¬ (_ ∨ _); decide) dL_law_896 ?_
        refine lv_fixi (y := (xs 3)) rfl ?_
        refine lv_aload_n hx hb dL_law_897 rfl (lv_at hl 3 rfl) ?_
        refine lv_iload_n hx hb dL_law_898 rfl (lv_at hl 0 rfl) ?_
        refine lv_iconst (v := 4) hx hb dL_law_899 (by decide) ?_
        refine lv_iadd hx hb dL_law_900 ?_
        refine lv_fixi (y := 4) (by decide) ?_
        refine lv_pc (q := 901) rfl ?_
        refine va_sld (i := 4) hx hb hX hbl hbA hS (by show ¬ (_ ∨ _); decide) dL_law_901 ?_
        refine lv_fixi (y := (xs 4)) rfl ?_
        refine uVi (As := [.int (xs 1), .int (xs 2), .int (xs 3), .int (xs 4)]) (rest := [.int (-1)]) (wr := []) [(q9, .inr (12, [.int 0, .int 4, .int 4, .ref (u11 0), .ref (u11 1), .ref (u11 2), .ref (u11 3), .int 0, .ref (u11 4), .ref (u11 5), .int 0, .ref (u11 6), .ref (u11 7), .ref (u11 8), .ref (u11 9), .ref (u11 10), .ref (u11 11), .ref (u11 12), .int 0, .ref (u11 13), .ref (u11 14), .ref (u11 15), .ref (u11 16), .ref (u11 17), .ref (u11 18), .int 0, .ref (u11 19), .int 0, .int 0, .int 0, .ref (u11 20), .int 0, .int 0, .ref (u11 21), .int 0, .ref (u11 60), .ref (u11 22), .ref (u11 23), .ref (u11 24), .ref (u11 61), .ref (u11 25), .ref (u11 26), .ref (u11 62), .ref (u11 63), .ref (u11 64), .ref (u11 27), .ref (u11 28), .ref (u11 29), .ref (u11 30), .ref (u11 31), .ref (u11 32), .ref (u11 33), .ref (u11 34), .ref (u11 35), .ref (u11 36), .ref (u11 37), .ref (u11 38), .ref (u11 65), .int 0, .int 0, .int 0, .int 0, .int 0, .long 0, .int 0, .int 0, .int 0, .int 0, .int 0, .int (-1), .int 0, .ref (u11 39), .ref (u11 40), .ref (u11 41), .ref (u11 42), .ref (u11 43), .int 0, .int 0, .ref (u11 44), .ref (u11 45), .ref (u11 46), .ref (u11 47), .ref (u11 48), .ref (u11 49), .ref (u11 50), .ref (u11 51), .int 0, .int 0, .int 0, .int 0, .ref (u11 52), .ref (u11 53), .int 0, .ref (u11 54), .ref (u11 55), .ref (u11 56), .ref (u11 57), .ref (u11 58), .ref (u11 59)]))] B hl.1 hP hD hS [0] [] rfl rfl rfl (kX12_cuts_107 l D K _ q9 (u11 0) (u11 1) (u11 2) (u11 3) (u11 4) (u11 5) (u11 6) (u11 7) (u11 8) (u11 9) (u11 10) (u11 11) (u11 12) (u11 13) (u11 14) (u11 15) (u11 16) (u11 17) (u11 18) (u11 19) (u11 20) (u11 21) (u11 60) (u11 22) (u11 23) (u11 24) (u11 61) (u11 25) (u11 26) (u11 62) (u11 63) (u11 64) (u11 27) (u11 28) (u11 29) (u11 30) (u11 31) (u11 32) (u11 33) (u11 34) (u11 35) (u11 36) (u11 37) (u11 38) (u11 65) (u11 39) (u11 40) (u11 41) (u11 42) (u11 43) (u11 44) (u11 45) (u11 46) (u11 47) (u11 48) (u11 49) (u11 50) (u11 51) (u11 52) (u11 53) (u11 54) (u11 55) (u11 56) (u11 57) (u11 58) (u11 59) (xs 1) (xs 2) (xs 3) (xs 4)) wd_X12_cuts mml_L_88 rfl rfl rfl rfl ⟨Nat.le_of_ble_eq_true rfl, Nat.le_of_ble_eq_true rfl⟩ (Nat.le_of_ble_eq_true rfl) ⟨Nat.le_of_ble_eq_true rfl, Nat.le_of_ble_eq_true rfl⟩ dL_law_902 (fun r269 u H locs hw hP hD hS => ?_)
        try dsimp only at hw
        rcases hw with ⟨rfl, w270⟩ | ⟨rfl, ⟨w271, w272, w273, w274, w275, w276, w277⟩⟩
        · have hP : va_P D vwCl [] H := hP
          have hD : va_D A [] := hD
          refine lv_icmp_eq (tgt := 1474) hx hb dL_law_905 (by decide) (fun _ => ?_) (fun h9 => absurd (by decide) h9)
          refine lv_iinc (v := 7) (lv' := [(3, .int 7), (2, .ref q9), (1, .ref q1), (0, .ref b)]) hx hb dL_law_1474 hl (k := 0) rfl (by decide) (by decide) rfl (fun ls hl => ?_)
          refine lv_goto (tgt := 18) hx hb dL_law_1477 (by decide) ?_
          refine lv_iload_n hx hb dL_law_18 rfl (lv_at hl 0 rfl) ?_
          refine lv_pc (q := 19) rfl ?_
          refine lv_aload_n hx hb dL_law_19 rfl (lv_at hl 3 rfl) ?_
          refine va_slen hx hb hX hbl hbA hS dL_law_20 ?_
          refine lv_fixi (y := 7) (by decide) ?_
          refine lv_bipush (v := 7) hx hb dL_law_21 (by decide) ?_
          refine lv_isub hx hb dL_law_23 ?_
          refine lv_fixi (y := 0) (by decide) ?_
          refine lv_icmp_gt (tgt := 1480) hx hb dL_law_24 (by decide) (fun _ => ?_) (fun h9 => absurd (by decide) h9)
          refine lv_iconst (v := 1) hx hb dL_law_1480 (by decide) ?_
          refine lv_pc (q := 1481) rfl ?_
          refine va_forget (fun q hq => by have h9 := hS.2.2 q hq; rw [hAe] at h9; exact h9) ?_
          refine W.widen (k := 600000) (n := 7302250) (by decide) (by decide) ?_
          exact lw_ret hx hb hr hlocks dL_law_1481
        have hP : va_P D vwCl [] H := hP
        have hD : va_D A [] := hD
        exfalso
        try simp only [fa_lt, fa_le, fa_eq, Int32.reduceToInt] at w267 w271 w272 w273 w274 w275 w276 w277
        omega
      have hP : va_P D vwCl [(q9, .inr (12, [.int 0, .int 4, .int 4, .ref (u11 0), .ref (u11 1), .ref (u11 2), .ref (u11 3), .int 0, .ref (u11 4), .ref (u11 5), .int 0, .ref (u11 6), .ref (u11 7), .ref (u11 8), .ref (u11 9), .ref (u11 10), .ref (u11 11), .ref (u11 12), .int 0, .ref (u11 13), .ref (u11 14), .ref (u11 15), .ref (u11 16), .ref (u11 17), .ref (u11 18), .int 0, .ref (u11 19), .int 0, .int 0, .int 0, .ref (u11 20), .int 0, .int 0, .ref (u11 21), .int 0, .ref (u11 60), .ref (u11 22), .ref (u11 23), .ref (u11 24), .ref (u11 61), .ref (u11 25), .ref (u11 26), .ref (u11 62), .ref (u11 63), .ref (u11 64), .ref (u11 27), .ref (u11 28), .ref (u11 29), .ref (u11 30), .ref (u11 31), .ref (u11 32), .ref (u11 33), .ref (u11 34), .ref (u11 35), .ref (u11 36), .ref (u11 37), .ref (u11 38), .ref (u11 65), .int 0, .int 0, .int 0, .int 0, .int 0, .long 0, .int 0, .int 0, .int 0, .int 0, .int 0, .int (-1), .int 0, .ref (u11 39), .ref (u11 40), .ref (u11 41), .ref (u11 42), .ref (u11 43), .int 0, .int 0, .ref (u11 44), .ref (u11 45), .ref (u11 46), .ref (u11 47), .ref (u11 48), .ref (u11 49), .ref (u11 50), .ref (u11 51), .int 0, .int 0, .int 0, .int 0, .ref (u11 52), .ref (u11 53), .int 0, .ref (u11 54), .ref (u11 55), .ref (u11 56), .ref (u11 57), .ref (u11 58), .ref (u11 59)]))] H := hP
      have hD : va_D A [(q9, .inr (12, [.int 0, .int 4, .int 4, .ref (u11 0), .ref (u11 1), .ref (u11 2), .ref (u11 3), .int 0, .ref (u11 4), .ref (u11 5), .int 0, .ref (u11 6), .ref (u11 7), .ref (u11 8), .ref (u11 9), .ref (u11 10), .ref (u11 11), .ref (u11 12), .int 0, .ref (u11 13), .ref (u11 14), .ref (u11 15), .ref (u11 16), .ref (u11 17), .ref (u11 18), .int 0, .ref (u11 19), .int 0, .int 0, .int 0, .ref (u11 20), .int 0, .int 0, .ref (u11 21), .int 0, .ref (u11 60), .ref (u11 22), .ref (u11 23), .ref (u11 24), .ref (u11 61), .ref (u11 25), .ref (u11 26), .ref (u11 62), .ref (u11 63), .ref (u11 64), .ref (u11 27), .ref (u11 28), .ref (u11 29), .ref (u11 30), .ref (u11 31), .ref (u11 32), .ref (u11 33), .ref (u11 34), .ref (u11 35), .ref (u11 36), .ref (u11 37), .ref (u11 38), .ref (u11 65), .int 0, .int 0, .int 0, .int 0, .int 0, .long 0, .int 0, .int 0, .int 0, .int 0, .int 0, .int (-1), .int 0, .ref (u11 39), .ref (u11 40), .ref (u11 41), .ref (u11 42), .ref (u11 43), .int 0, .int 0, .ref (u11 44), .ref (u11 45), .ref (u11 46), .ref (u11 47), .ref (u11 48), .ref (u11 49), .ref (u11 50), .ref (u11 51), .int 0, .int 0, .int 0, .int 0, .ref (u11 52), .ref (u11 53), .int 0, .ref (u11 54), .ref (u11 55), .ref (u11 56), .ref (u11 57), .ref (u11 58), .ref (u11 59)]))] := hD
      refine lv_aload_n hx hb dL_law_881 rfl (lv_at hl 1 rfl) ?_
      refine lv_aload_n hx hb dL_law_882 rfl (lv_at hl 3 rfl) ?_
      refine lv_pc (q := 883) rfl ?_
      refine lv_iload_n hx hb dL_law_883 rfl (lv_at hl 0 rfl) ?_
      refine lv_iconst (v := 1) hx hb dL_law_884 (by decide) ?_
      refine lv_iadd hx hb dL_law_885 ?_
      refine lv_fixi (y := 1) (by decide) ?_
      refine va_sld (i := 1) hx hb hX hbl hbA hS (by show ¬ (_ ∨ _); decide) dL_law_886 ?_
      refine lv_fixi (y := (xs 1)) rfl ?_
      refine lv_aload_n hx hb dL_law_887 rfl (lv_at hl 3 rfl) ?_
      refine lv_iload_n hx hb dL_law_888 rfl (lv_at hl 0 rfl) ?_
      refine lv_pc (q := 889) rfl ?_
      refine lv_iconst (v := 2) hx hb dL_law_889 (by decide) ?_
      refine lv_iadd hx hb dL_law_890 ?_
      refine lv_fixi (y := 2) (by decide) ?_
      refine va_sld (i := 2) hx hb hX hbl hbA hS (by show ¬ (_ ∨ _); decide) dL_law_891 ?_
      refine lv_fixi (y := (xs 2)) rfl ?_
      refine lv_aload_n hx hb dL_law_892 rfl (lv_at hl 3 rfl) ?_
      refine lv_iload_n hx hb dL_law_893 rfl (lv_at hl 0 rfl) ?_
      refine lv_iconst (v := 3) hx hb dL_law_894 (by decide) ?_
      refine lv_pc (q := 895) rfl ?_
      refine lv_iadd hx hb dL_law_895 ?_
      refine lv_fixi (y := 3) (by decide) ?_
      refine va_sld (i := 3) hx hb hX hbl hbA hS (by show ¬ (_ ∨ _); decide) dL_law_896 ?_
      refine lv_fixi (y := (xs 3)) rfl ?_
      refine lv_aload_n hx hb dL_law_897 rfl (lv_at hl 3 rfl) ?_
      refine lv_iload_n hx hb dL_law_898 rfl (lv_at hl 0 rfl) ?_
      refine lv_iconst (v := 4) hx hb dL_law_899 (by decide) ?_
      refine lv_iadd hx hb dL_law_900 ?_
      refine lv_fixi (y := 4) (by decide) ?_
      refine lv_pc (q := 901) rfl ?_
      refine va_sld (i := 4) hx hb hX hbl hbA hS (by show ¬ (_ ∨ _); decide) dL_law_901 ?_
      refine lv_fixi (y := (xs 4)) rfl ?_
      refine uVi (As := [.int (xs 1), .int (xs 2), .int (xs 3), .int (xs 4)]) (rest := [.int 0]) (wr := []) [(q9, .inr (12, [.int 0, .int 4, .int 4, .ref (u11 0), .ref (u11 1), .ref (u11 2), .ref (u11 3), .int 0, .ref (u11 4), .ref (u11 5), .int 0, .ref (u11 6), .ref (u11 7), .ref (u11 8), .ref (u11 9), .ref (u11 10), .ref (u11 11), .ref (u11 12), .int 0, .ref (u11 13), .ref (u11 14), .ref (u11 15), .ref (u11 16), .ref (u11 17), .ref (u11 18), .int 0, .ref (u11 19), .int 0, .int 0, .int 0, .ref (u11 20), .int 0, .int 0, .ref (u11 21), .int 0, .ref (u11 60), .ref (u11 22), .ref (u11 23), .ref (u11 24), .ref (u11 61), .ref (u11 25), .ref (u11 26), .ref (u11 62), .ref (u11 63), .ref (u11 64), .ref (u11 27), .ref (u11 28), .ref (u11 29), .ref (u11 30), .ref (u11 31), .ref (u11 32), .ref (u11 33), .ref (u11 34), .ref (u11 35), .ref (u11 36), .ref (u11 37), .ref (u11 38), .ref (u11 65), .int 0, .int 0, .int 0, .int 0, .int 0, .long 0, .int 0, .int 0, .int 0, .int 0, .int 0, .int (-1), .int 0, .ref (u11 39), .ref (u11 40), .ref (u11 41), .ref (u11 42), .ref (u11 43), .int 0, .int 0, .ref (u11 44), .ref (u11 45), .ref (u11 46), .ref (u11 47), .ref (u11 48), .ref (u11 49), .ref (u11 50), .ref (u11 51), .int 0, .int 0, .int 0, .int 0, .ref (u11 52), .ref (u11 53), .int 0, .ref (u11 54), .ref (u11 55), .ref (u11 56), .ref (u11 57), .ref (u11 58), .ref (u11 59)]))] B hl.1 hP hD hS [0] [] rfl rfl rfl (kX12_cuts_107 l D K _ q9 (u11 0) (u11 1) (u11 2) (u11 3) (u11 4) (u11 5) (u11 6) (u11 7) (u11 8) (u11 9) (u11 10) (u11 11) (u11 12) (u11 13) (u11 14) (u11 15) (u11 16) (u11 17) (u11 18) (u11 19) (u11 20) (u11 21) (u11 60) (u11 22) (u11 23) (u11 24) (u11 61) (u11 25) (u11 26) (u11 62) (u11 63) (u11 64) (u11 27) (u11 28) (u11 29) (u11 30) (u11 31) (u11 32) (u11 33) (u11 34) (u11 35) (u11 36) (u11 37) (u11 38) (u11 65) (u11 39) (u11 40) (u11 41) (u11 42) (u11 43) (u11 44) (u11 45) (u11 46) (u11 47) (u11 48) (u11 49) (u11 50) (u11 51) (u11 52) (u11 53) (u11 54) (u11 55) (u11 56) (u11 57) (u11 58) (u11 59) (xs 1) (xs 2) (xs 3) (xs 4)) wd_X12_cuts mml_L_88 rfl rfl rfl rfl ⟨Nat.le_of_ble_eq_true rfl, Nat.le_of_ble_eq_true rfl⟩ (Nat.le_of_ble_eq_true rfl) ⟨Nat.le_of_ble_eq_true rfl, Nat.le_of_ble_eq_true rfl⟩ dL_law_902 (fun r278 u H locs hw hP hD hS => ?_)
      try dsimp only at hw
      rcases hw with ⟨rfl, w279⟩ | ⟨rfl, ⟨w280, w281, w282, w283, w284, w285, w286⟩⟩
      · have hP : va_P D vwCl [] H := hP
        have hD : va_D A [] := hD
        exfalso
        try simp only [fa_lt, fa_le, fa_eq, Int32.reduceToInt] at w268 w279
        omega
      have hP : va_P D vwCl [] H := hP
      have hD : va_D A [] := hD
      refine lv_icmp_eq (tgt := 1474) hx hb dL_law_905 (by decide) (fun _ => ?_) (fun h9 => absurd (by decide) h9)
      refine lv_iinc (v := 7) (lv' := [(3, .int 7), (2, .ref q9), (1, .ref q1), (0, .ref b)]) hx hb dL_law_1474 hl (k := 0) rfl (by decide) (by decide) rfl (fun ls hl => ?_)
      refine lv_goto (tgt := 18) hx hb dL_law_1477 (by decide) ?_
      refine lv_iload_n hx hb dL_law_18 rfl (lv_at hl 0 rfl) ?_
      refine lv_pc (q := 19) rfl ?_
      refine lv_aload_n hx hb dL_law_19 rfl (lv_at hl 3 rfl) ?_
      refine va_slen hx hb hX hbl hbA hS dL_law_20 ?_
      refine lv_fixi (y := 7) (by decide) ?_
      refine lv_bipush (v := 7) hx hb dL_law_21 (by decide) ?_
      refine lv_isub hx hb dL_law_23 ?_
      refine lv_fixi (y := 0) (by decide) ?_
      refine lv_icmp_gt (tgt := 1480) hx hb dL_law_24 (by decide) (fun _ => ?_) (fun h9 => absurd (by decide) h9)
      refine lv_iconst (v := 1) hx hb dL_law_1480 (by decide) ?_
      refine lv_pc (q := 1481) rfl ?_
      refine va_forget (fun q hq => by have h9 := hS.2.2 q hq; rw [hAe] at h9; exact h9) ?_
      refine W.widen (k := 600000) (n := 7302250) (by decide) (by decide) ?_
      exact lw_ret hx hb hr hlocks dL_law_1481
    · refine lv_fixi (y := 16) ejj ?_
      refine lv_tableIn (off := 877) (tgt := 910) hx hb dL_law_33 (by decide) (by decide) rfl (by decide) ?_
      replace hP := uSub (wc := [(q1, .inr (11, [.ref (u3 0), .ref (u3 7), .ref (u3 16), .ref (u3 17), .ref (u3 24), .ref (u3 27), .ref (u3 30), .ref (u3 33), .ref (u3 62), .ref (u3 77), .ref (u3 50)])), (u3 7, .inr (4, [.ref (u3 0), .ref (u3 8), .ref (u3 9), .ref (u3 10), .ref (u3 11), .ref (u3 12), .ref (u3 13), .ref (u3 14), .ref (u3 15), .int 0])), (u3 17, .inr (3, [.ref (u3 18), .ref (u3 19), .ref (u3 20), .ref (u3 21), .ref (u3 22), .ref (u3 23), .int 0, .int (-1), .int 1, .int 0])), (u3 22, .inl (K 0, 24, .inl (fun _ => 0))), (u3 23, .inl (K 0, 24, .inl (fun _ => 0))), (u3 24, .inr (1, [.ref (u3 7), .ref (u3 17), .ref (u3 16), .ref (u3 25), .ref (u3 26), .int 0, .int 0])), (u3 25, .inl (K 0, 12, .inl (fun _ => 0))), (u3 26, .inl (K 0, 12, .inl (fun _ => 0))), (u3 27, .inr (6, [.ref (u3 28), .ref (u3 29), .int 0, .int (-1), .int 0])), (u3 28, .inl (K 0, 252, .inl (fun _ => 0))), (u3 29, .inl (K 0, 12, .inl (fun _ => 0))), (q9, .inr (12, [.int 0, .int 4, .int 4, .ref (u11 0), .ref (u11 1), .ref (u11 2), .ref (u11 3), .int 0, .ref (u11 4), .ref (u11 5), .int 0, .ref (u11 6), .ref (u11 7), .ref (u11 8), .ref (u11 9), .ref (u11 10), .ref (u11 11), .ref (u11 12), .int 0, .ref (u11 13), .ref (u11 14), .ref (u11 15), .ref (u11 16), .ref (u11 17), .ref (u11 18), .int 0, .ref (u11 19), .int 0, .int 0, .int 0, .ref (u11 20), .int 0, .int 0, .ref (u11 21), .int 0, .ref (u11 60), .ref (u11 22), .ref (u11 23), .ref (u11 24), .ref (u11 61), .ref (u11 25), .ref (u11 26), .ref (u11 62), .ref (u11 63), .ref (u11 64), .ref (u11 27), .ref (u11 28), .ref (u11 29), .ref (u11 30), .ref (u11 31), .ref (u11 32), .ref (u11 33), .ref (u11 34), .ref (u11 35), .ref (u11 36), .ref (u11 37), .ref (u11 38), .ref (u11 65), .int 0, .int 0, .int 0, .int 0, .int 0, .long 0, .int 0, .int 0, .int 0, .int 0, .int 0, .int (-1), .int 0, .ref (u11 39), .ref (u11 40), .ref (u11 41), .ref (u11 42), .ref (u11 43), .int 0, .int 0, .ref (u11 44), .ref (u11 45), .ref (u11 46), .ref (u11 47), .ref (u11 48), .ref (u11 49), .ref (u11 50), .ref (u11 51), .int 0, .int 0, .int 0, .int 0, .ref (u11 52), .ref (u11 53), .int 0, .ref (u11 54), .ref (u11 55), .ref (u11 56), .ref (u11 57), .ref (u11 58), .ref (u11 59)])), (u11 20, .inl (K 0, 4096, .inl (fun _ => 0)))]) hP [0, 8, 18, 23, 24, 25, 26, 27, 28, 29, 30, 97, 118] rfl
      replace hD := hD.sub (ws' := [(q1, .inr (11, [.ref (u3 0), .ref (u3 7), .ref (u3 16), .ref (u3 17), .ref (u3 24), .ref (u3 27), .ref (u3 30), .ref (u3 33), .ref (u3 62), .ref (u3 77), .ref (u3 50)])), (u3 7, .inr (4, [.ref (u3 0), .ref (u3 8), .ref (u3 9), .ref (u3 10), .ref (u3 11), .ref (u3 12), .ref (u3 13), .ref (u3 14), .ref (u3 15), .int 0])), (u3 17, .inr (3, [.ref (u3 18), .ref (u3 19), .ref (u3 20), .ref (u3 21), .ref (u3 22), .ref (u3 23), .int 0, .int (-1), .int 1, .int 0])), (u3 22, .inl (K 0, 24, .inl (fun _ => 0))), (u3 23, .inl (K 0, 24, .inl (fun _ => 0))), (u3 24, .inr (1, [.ref (u3 7), .ref (u3 17), .ref (u3 16), .ref (u3 25), .ref (u3 26), .int 0, .int 0])), (u3 25, .inl (K 0, 12, .inl (fun _ => 0))), (u3 26, .inl (K 0, 12, .inl (fun _ => 0))), (u3 27, .inr (6, [.ref (u3 28), .ref (u3 29), .int 0, .int (-1), .int 0])), (u3 28, .inl (K 0, 252, .inl (fun _ => 0))), (u3 29, .inl (K 0, 12, .inl (fun _ => 0))), (q9, .inr (12, [.int 0, .int 4, .int 4, .ref (u11 0), .ref (u11 1), .ref (u11 2), .ref (u11 3), .int 0, .ref (u11 4), .ref (u11 5), .int 0, .ref (u11 6), .ref (u11 7), .ref (u11 8), .ref (u11 9), .ref (u11 10), .ref (u11 11), .ref (u11 12), .int 0, .ref (u11 13), .ref (u11 14), .ref (u11 15), .ref (u11 16), .ref (u11 17), .ref (u11 18), .int 0, .ref (u11 19), .int 0, .int 0, .int 0, .ref (u11 20), .int 0, .int 0, .ref (u11 21), .int 0, .ref (u11 60), .ref (u11 22), .ref (u11 23), .ref (u11 24), .ref (u11 61), .ref (u11 25), .ref (u11 26), .ref (u11 62), .ref (u11 63), .ref (u11 64), .ref (u11 27), .ref (u11 28), .ref (u11 29), .ref (u11 30), .ref (u11 31), .ref (u11 32), .ref (u11 33), .ref (u11 34), .ref (u11 35), .ref (u11 36), .ref (u11 37), .ref (u11 38), .ref (u11 65), .int 0, .int 0, .int 0, .int 0, .int 0, .long 0, .int 0, .int 0, .int 0, .int 0, .int 0, .int (-1), .int 0, .ref (u11 39), .ref (u11 40), .ref (u11 41), .ref (u11 42), .ref (u11 43), .int 0, .int 0, .ref (u11 44), .ref (u11 45), .ref (u11 46), .ref (u11 47), .ref (u11 48), .ref (u11 49), .ref (u11 50), .ref (u11 51), .int 0, .int 0, .int 0, .int 0, .ref (u11 52), .ref (u11 53), .int 0, .ref (u11 54), .ref (u11 55), .ref (u11 56), .ref (u11 57), .ref (u11 58), .ref (u11 59)])), (u11 20, .inl (K 0, 4096, .inl (fun _ => 0)))]) [0, 8, 18, 23, 24, 25, 26, 27, 28, 29, 30, 97, 118] rfl rfl
      refine lv_pc (q := 910) rfl ?_
      refine lv_aload_n hx hb dL_law_910 rfl (lv_at hl 2 rfl) ?_
      refine lv_aload_n hx hb dL_law_911 rfl (lv_at hl 3 rfl) ?_
      refine lv_iload_n hx hb dL_law_912 rfl (lv_at hl 0 rfl) ?_
      refine lv_iconst (v := 1) hx hb dL_law_913 (by decide) ?_
      refine lv_iadd hx hb dL_law_914 ?_
      refine lv_fixi (y := 1) (by decide) ?_
      refine va_sld (i := 1) hx hb hX hbl hbA hS (by show ¬ (_ ∨ _); decide) dL_law_915 ?_
      refine lv_fixi (y := (xs 1)) rfl ?_
      refine lv_pc (q := 916) rfl ?_
      refine lv_aload_n hx hb dL_law_916 rfl (lv_at hl 3 rfl) ?_
      refine lv_iload_n hx hb dL_law_917 rfl (lv_at hl 0 rfl) ?_
      refine lv_iconst (v := 2) hx hb dL_law_918 (by decide) ?_
      refine lv_iadd hx hb dL_law_919 ?_
      refine lv_fixi (y := 2) (by decide) ?_
      refine va_sld (i := 2) hx hb hX hbl hbA hS (by show ¬ (_ ∨ _); decide) dL_law_920 ?_
      refine lv_fixi (y := (xs 2)) rfl ?_
      refine lv_aload_n hx hb dL_law_921 rfl (lv_at hl 3 rfl) ?_
      refine lv_pc (q := 922) rfl ?_
      refine lv_iload_n hx hb dL_law_922 rfl (lv_at hl 0 rfl) ?_
      refine lv_iconst (v := 3) hx hb dL_law_923 (by decide) ?_
      refine lv_iadd hx hb dL_law_924 ?_
      refine lv_fixi (y := 3) (by decide) ?_
      refine va_sld (i := 3) hx hb hX hbl hbA hS (by show ¬ (_ ∨ _); decide) dL_law_925 ?_
      refine lv_fixi (y := (xs 3)) rfl ?_
      refine lv_aload_n hx hb dL_law_926 rfl (lv_at hl 3 rfl) ?_
      refine lv_iload_n hx hb dL_law_927 rfl (lv_at hl 0 rfl) ?_
      refine lv_pc (q := 928) rfl ?_
      refine lv_iconst (v := 4) hx hb dL_law_928 (by decide) ?_
      refine lv_iadd hx hb dL_law_929 ?_
      refine lv_fixi (y := 4) (by decide) ?_
      refine va_sld (i := 4) hx hb hX hbl hbA hS (by show ¬ (_ ∨ _); decide) dL_law_930 ?_
      refine lv_fixi (y := (xs 4)) rfl ?_
      refine uVi (As := [.int (xs 1), .int (xs 2), .int (xs 3), .int (xs 4)]) (rest := []) (wr := [(q9, .inr (12, [.int 0, .int 4, .int 4, .ref (u11 0), .ref (u11 1), .ref (u11 2), .ref (u11 3), .int 0, .ref (u11 4), .ref (u11 5), .int 0, .ref (u11 6), .ref (u11 7), .ref (u11 8), .ref (u11 9), .ref (u11 10), .ref (u11 11), .ref (u11 12), .int 0, .ref (u11 13), .ref (u11 14), .ref (u11 15), .ref (u11 16), .ref (u11 17), .ref (u11 18), .int 0, .ref (u11 19), .int 0, .int 0, .int 0, .ref (u11 20), .int 0, .int 0, .ref (u11 21), .int 0, .ref (u11 60), .ref (u11 22), .ref (u11 23), .ref (u11 24), .ref (u11 61), .ref (u11 25), .ref (u11 26), .ref (u11 62), .ref (u11 63), .ref (u11 64), .ref (u11 27), .ref (u11 28), .ref (u11 29), .ref (u11 30), .ref (u11 31), .ref (u11 32), .ref (u11 33), .ref (u11 34), .ref (u11 35), .ref (u11 36), .ref (u11 37), .ref (u11 38), .ref (u11 65), .int 0, .int 0, .int 0, .int 0, .int 0, .long 0, .int 0, .int 0, .int 0, .int 0, .int 0, .int (-1), .int 0, .ref (u11 39), .ref (u11 40), .ref (u11 41), .ref (u11 42), .ref (u11 43), .int 0, .int 0, .ref (u11 44), .ref (u11 45), .ref (u11 46), .ref (u11 47), .ref (u11 48), .ref (u11 49), .ref (u11 50), .ref (u11 51), .int 0, .int 0, .int 0, .int 0, .ref (u11 52), .ref (u11 53), .int 0, .ref (u11 54), .ref (u11 55), .ref (u11 56), .ref (u11 57), .ref (u11 58), .ref (u11 59)])), (u11 20, .inl (K 0, 4096, .inl (fun _ => 0)))]) [(q1, .inr (11, [.ref (u3 0), .ref (u3 7), .ref (u3 16), .ref (u3 17), .ref (u3 24), .ref (u3 27), .ref (u3 30), .ref (u3 33), .ref (u3 62), .ref (u3 77), .ref (u3 50)])), (u3 24, .inr (1, [.ref (u3 7), .ref (u3 17), .ref (u3 16), .ref (u3 25), .ref (u3 26), .int 0, .int 0])), (u3 17, .inr (3, [.ref (u3 18), .ref (u3 19), .ref (u3 20), .ref (u3 21), .ref (u3 22), .ref (u3 23), .int 0, .int (-1), .int 1, .int 0])), (u3 22, .inl (K 0, 24, .inl (fun _ => 0))), (u3 23, .inl (K 0, 24, .inl (fun _ => 0))), (u3 7, .inr (4, [.ref (u3 0), .ref (u3 8), .ref (u3 9), .ref (u3 10), .ref (u3 11), .ref (u3 12), .ref (u3 13), .ref (u3 14), .ref (u3 15), .int 0])), (u3 25, .inl (K 0, 12, .inl (fun _ => 0))), (u3 26, .inl (K 0, 12, .inl (fun _ => 0))), (u3 27, .inr (6, [.ref (u3 28), .ref (u3 29), .int 0, .int (-1), .int 0])), (u3 28, .inl (K 0, 252, .inl (fun _ => 0))), (u3 29, .inl (K 0, 12, .inl (fun _ => 0)))] B hl.1 hP hD hS [0, 5, 2, 3, 4, 1, 6, 7, 8, 9, 10] [11, 12] rfl rfl rfl (kX11_join_117 l D K _ q1 (u3 24) (u3 17) (u3 22) (u3 23) (u3 7) (u3 25) (u3 26) (u3 27) (u3 28) (u3 29) (u3 0) (u3 16) (u3 30) (u3 33) (u3 62) (u3 77) (u3 50) (u3 18) (u3 19) (u3 20) (u3 21) (fun _ => 0) (fun _ => 0) (u3 8) (u3 9) (u3 10) (u3 11) (u3 12) (u3 13) (u3 14) (u3 15) (fun _ => 0) (fun _ => 0) (fun _ => 0) (fun _ => 0) (xs 1) (xs 2) (xs 3) (xs 4)) wd_X11_join mml_L_89 rfl rfl rfl rfl ⟨Nat.le_of_ble_eq_true rfl, Nat.le_of_ble_eq_true rfl⟩ (Nat.le_of_ble_eq_true rfl) ⟨Nat.le_of_ble_eq_true rfl, Nat.le_of_ble_eq_true rfl⟩ dL_law_931 (fun r287 u H locs hw hP hD hS => ?_)
      try dsimp only at hw
      rcases hw with ⟨rfl, w288⟩ | ⟨rfl, w289⟩
      · have hP : va_P D vwCl [(q9, .inr (12, [.int 0, .int 4, .int 4, .ref (u11 0), .ref (u11 1), .ref (u11 2), .ref (u11 3), .int 0, .ref (u11 4), .ref (u11 5), .int 0, .ref (u11 6), .ref (u11 7), .ref (u11 8), .ref (u11 9), .ref (u11 10), .ref (u11 11), .ref (u11 12), .int 0, .ref (u11 13), .ref (u11 14), .ref (u11 15), .ref (u11 16), .ref (u11 17), .ref (u11 18), .int 0, .ref (u11 19), .int 0, .int 0, .int 0, .ref (u11 20), .int 0, .int 0, .ref (u11 21), .int 0, .ref (u11 60), .ref (u11 22), .ref (u11 23), .ref (u11 24), .ref (u11 61), .ref (u11 25), .ref (u11 26), .ref (u11 62), .ref (u11 63), .ref (u11 64), .ref (u11 27), .ref (u11 28), .ref (u11 29), .ref (u11 30), .ref (u11 31), .ref (u11 32), .ref (u11 33), .ref (u11 34), .ref (u11 35), .ref (u11 36), .ref (u11 37), .ref (u11 38), .ref (u11 65), .int 0, .int 0, .int 0, .int 0, .int 0, .long 0, .int 0, .int 0, .int 0, .int 0, .int 0, .int (-1), .int 0, .ref (u11 39), .ref (u11 40), .ref (u11 41), .ref (u11 42), .ref (u11 43), .int 0, .int 0, .ref (u11 44), .ref (u11 45), .ref (u11 46), .ref (u11 47), .ref (u11 48), .ref (u11 49), .ref (u11 50), .ref (u11 51), .int 0, .int 0, .int 0, .int 0, .ref (u11 52), .ref (u11 53), .int 0, .ref (u11 54), .ref (u11 55), .ref (u11 56), .ref (u11 57), .ref (u11 58), .ref (u11 59)])), (u11 20, .inl (K 0, 4096, .inl (fun _ => 0)))] H := hP
        have hD : va_D A [(q9, .inr (12, [.int 0, .int 4, .int 4, .ref (u11 0), .ref (u11 1), .ref (u11 2), .ref (u11 3), .int 0, .ref (u11 4), .ref (u11 5), .int 0, .ref (u11 6), .ref (u11 7), .ref (u11 8), .ref (u11 9), .ref (u11 10), .ref (u11 11), .ref (u11 12), .int 0, .ref (u11 13), .ref (u11 14), .ref (u11 15), .ref (u11 16), .ref (u11 17), .ref (u11 18), .int 0, .ref (u11 19), .int 0, .int 0, .int 0, .ref (u11 20), .int 0, .int 0, .ref (u11 21), .int 0, .ref (u11 60), .ref (u11 22), .ref (u11 23), .ref (u11 24), .ref (u11 61), .ref (u11 25), .ref (u11 26), .ref (u11 62), .ref (u11 63), .ref (u11 64), .ref (u11 27), .ref (u11 28), .ref (u11 29), .ref (u11 30), .ref (u11 31), .ref (u11 32), .ref (u11 33), .ref (u11 34), .ref (u11 35), .ref (u11 36), .ref (u11 37), .ref (u11 38), .ref (u11 65), .int 0, .int 0, .int 0, .int 0, .int 0, .long 0, .int 0, .int 0, .int 0, .int 0, .int 0, .int (-1), .int 0, .ref (u11 39), .ref (u11 40), .ref (u11 41), .ref (u11 42), .ref (u11 43), .int 0, .int 0, .ref (u11 44), .ref (u11 45), .ref (u11 46), .ref (u11 47), .ref (u11 48), .ref (u11 49), .ref (u11 50), .ref (u11 51), .int 0, .int 0, .int 0, .int 0, .ref (u11 52), .ref (u11 53), .int 0, .ref (u11 54), .ref (u11 55), .ref (u11 56), .ref (u11 57), .ref (u11 58), .ref (u11 59)])), (u11 20, .inl (K 0, 4096, .inl (fun _ => 0)))] := hD
        refine lv_aload_n hx hb dL_law_934 rfl (lv_at hl 1 rfl) ?_
        refine lv_aload_n hx hb dL_law_935 rfl (lv_at hl 3 rfl) ?_
        refine lv_pc (q := 936) rfl ?_
        refine lv_iload_n hx hb dL_law_936 rfl (lv_at hl 0 rfl) ?_
        refine lv_iconst (v := 1) hx hb dL_law_937 (by decide) ?_
        refine lv_iadd hx hb dL_law_938 ?_
        refine lv_fixi (y := 1) (by decide) ?_
        refine va_sld (i := 1) hx hb hX hbl hbA hS (by show ¬ (_ ∨ _); decide) dL_law_939 ?_
        refine lv_fixi (y := (xs 1)) rfl ?_
        refine lv_aload_n hx hb dL_law_940 rfl (lv_at hl 3 rfl) ?_
        refine lv_iload_n hx hb dL_law_941 rfl (lv_at hl 0 rfl) ?_
        refine lv_pc (q := 942) rfl ?_
        refine lv_iconst (v := 2) hx hb dL_law_942 (by decide) ?_
        refine lv_iadd hx hb dL_law_943 ?_
        refine lv_fixi (y := 2) (by decide) ?_
        refine va_sld (i := 2) hx hb hX hbl hbA hS (by show ¬ (_ ∨ _); decide) dL_law_944 ?_
        refine lv_fixi (y := (xs 2)) rfl ?_
        refine lv_aload_n hx hb dL_law_945 rfl (lv_at hl 3 rfl) ?_
        refine lv_iload_n hx hb dL_law_946 rfl (lv_at hl 0 rfl) ?_
        refine lv_iconst (v := 3) hx hb dL_law_947 (by decide) ?_
        refine lv_pc (q := 948) rfl ?_
        refine lv_iadd hx hb dL_law_948 ?_
        refine lv_fixi (y := 3) (by decide) ?_
        refine va_sld (i := 3) hx hb hX hbl hbA hS (by show ¬ (_ ∨ _); decide) dL_law_949 ?_
        refine lv_fixi (y := (xs 3)) rfl ?_
        refine lv_aload_n hx hb dL_law_950 rfl (lv_at hl 3 rfl) ?_
        refine lv_iload_n hx hb dL_law_951 rfl (lv_at hl 0 rfl) ?_
        refine lv_iconst (v := 4) hx hb dL_law_952 (by decide) ?_
        refine lv_iadd hx hb dL_law_953 ?_
        refine lv_fixi (y := 4) (by decide) ?_
        refine lv_pc (q := 954) rfl ?_
        refine va_sld (i := 4) hx hb hX hbl hbA hS (by show ¬ (_ ∨ _); decide) dL_law_954 ?_
        refine lv_fixi (y := (xs 4)) rfl ?_
        refine uVi (As := [.int (xs 1), .int (xs 2), .int (xs 3), .int (xs 4)]) (rest := [.int (-1)]) (wr := []) [(q9, .inr (12, [.int 0, .int 4, .int 4, .ref (u11 0), .ref (u11 1), .ref (u11 2), .ref (u11 3), .int 0, .ref (u11 4), .ref (u11 5), .int 0, .ref (u11 6), .ref (u11 7), .ref (u11 8), .ref (u11 9), .ref (u11 10), .ref (u11 11), .ref (u11 12), .int 0, .ref (u11 13), .ref (u11 14), .ref (u11 15), .ref (u11 16), .ref (u11 17), .ref (u11 18), .int 0, .ref (u11 19), .int 0, .int 0, .int 0, .ref (u11 20), .int 0, .int 0, .ref (u11 21), .int 0, .ref (u11 60), .ref (u11 22), .ref (u11 23), .ref (u11 24), .ref (u11 61), .ref (u11 25), .ref (u11 26), .ref (u11 62), .ref (u11 63), .ref (u11 64), .ref (u11 27), .ref (u11 28), .ref (u11 29), .ref (u11 30), .ref (u11 31), .ref (u11 32), .ref (u11 33), .ref (u11 34), .ref (u11 35), .ref (u11 36), .ref (u11 37), .ref (u11 38), .ref (u11 65), .int 0, .int 0, .int 0, .int 0, .int 0, .long 0, .int 0, .int 0, .int 0, .int 0, .int 0, .int (-1), .int 0, .ref (u11 39), .ref (u11 40), .ref (u11 41), .ref (u11 42), .ref (u11 43), .int 0, .int 0, .ref (u11 44), .ref (u11 45), .ref (u11 46), .ref (u11 47), .ref (u11 48), .ref (u11 49), .ref (u11 50), .ref (u11 51), .int 0, .int 0, .int 0, .int 0, .ref (u11 52), .ref (u11 53), .int 0, .ref (u11 54), .ref (u11 55), .ref (u11 56), .ref (u11 57), .ref (u11 58), .ref (u11 59)])), (u11 20, .inl (K 0, 4096, .inl (fun _ => 0)))] B hl.1 hP hD hS [0, 1] [] rfl rfl rfl (kX12_join_119 l D K _ q9 (u11 20) (u11 0) (u11 1) (u11 2) (u11 3) (u11 4) (u11 5) (u11 6) (u11 7) (u11 8) (u11 9) (u11 10) (u11 11) (u11 12) (u11 13) (u11 14) (u11 15) (u11 16) (u11 17) (u11 18) (u11 19) (u11 21) (u11 60) (u11 22) (u11 23) (u11 24) (u11 61) (u11 25) (u11 26) (u11 62) (u11 63) (u11 64) (u11 27) (u11 28) (u11 29) (u11 30) (u11 31) (u11 32) (u11 33) (u11 34) (u11 35) (u11 36) (u11 37) (u11 38) (u11 65) (u11 39) (u11 40) (u11 41) (u11 42) (u11 43) (u11 44) (u11 45) (u11 46) (u11 47) (u11 48) (u11 49) (u11 50) (u11 51) (u11 52) (u11 53) (u11 54) (u11 55) (u11 56) (u11 57) (u11 58) (u11 59) (fun _ => 0) (xs 1) (xs 2) (xs 3) (xs 4)) wd_X12_join mml_L_92 rfl rfl rfl rfl ⟨Nat.le_of_ble_eq_true rfl, Nat.le_of_ble_eq_true rfl⟩ (Nat.le_of_ble_eq_true rfl) ⟨Nat.le_of_ble_eq_true rfl, Nat.le_of_ble_eq_true rfl⟩ dL_law_955 (fun r290 u H locs hw hP hD hS => ?_)
        try dsimp only at hw
        rcases hw with ⟨rfl, w291⟩ | ⟨rfl, ⟨w292, w293, w294, w295, w296, w297, w298⟩⟩
        · have hP : va_P D vwCl [] H := hP
          have hD : va_D A [] := hD
          refine lv_icmp_eq (tgt := 1474) hx hb dL_law_958 (by decide) (fun _ => ?_) (fun h9 => absurd (by decide) h9)
          refine lv_iinc (v := 7) (lv' := [(3, .int 7), (2, .ref q9), (1, .ref q1), (0, .ref b)]) hx hb dL_law_1474 hl (k := 0) rfl (by decide) (by decide) rfl (fun ls hl => ?_)
          refine lv_goto (tgt := 18) hx hb dL_law_1477 (by decide) ?_
          refine lv_iload_n hx hb dL_law_18 rfl (lv_at hl 0 rfl) ?_
          refine lv_pc (q := 19) rfl ?_
          refine lv_aload_n hx hb dL_law_19 rfl (lv_at hl 3 rfl) ?_
          refine va_slen hx hb hX hbl hbA hS dL_law_20 ?_
          refine lv_fixi (y := 7) (by decide) ?_
          refine lv_bipush (v := 7) hx hb dL_law_21 (by decide) ?_
          refine lv_isub hx hb dL_law_23 ?_
          refine lv_fixi (y := 0) (by decide) ?_
          refine lv_icmp_gt (tgt := 1480) hx hb dL_law_24 (by decide) (fun _ => ?_) (fun h9 => absurd (by decide) h9)
          refine lv_iconst (v := 1) hx hb dL_law_1480 (by decide) ?_
          refine lv_pc (q := 1481) rfl ?_
          refine va_forget (fun q hq => by have h9 := hS.2.2 q hq; rw [hAe] at h9; exact h9) ?_
          refine W.widen (k := 600000) (n := 7302250) (by decide) (by decide) ?_
          exact lw_ret hx hb hr hlocks dL_law_1481
        have hP : va_P D vwCl [] H := hP
        have hD : va_D A [] := hD
        exfalso
        try simp only [fa_lt, fa_le, fa_eq, Int32.reduceToInt] at w288 w292 w293 w294 w295 w296 w297 w298
        omega
      have hP : va_P D vwCl [(q9, .inr (12, [.int 0, .int 4, .int 4, .ref (u11 0), .ref (u11 1), .ref (u11 2), .ref (u11 3), .int 0, .ref (u11 4), .ref (u11 5), .int 0, .ref (u11 6), .ref (u11 7), .ref (u11 8), .ref (u11 9), .ref (u11 10), .ref (u11 11), .ref (u11 12), .int 0, .ref (u11 13), .ref (u11 14), .ref (u11 15), .ref (u11 16), .ref (u11 17), .ref (u11 18), .int 0, .ref (u11 19), .int 0, .int 0, .int 0, .ref (u11 20), .int 0, .int 0, .ref (u11 21), .int 0, .ref (u11 60), .ref (u11 22), .ref (u11 23), .ref (u11 24), .ref (u11 61), .ref (u11 25), .ref (u11 26), .ref (u11 62), .ref (u11 63), .ref (u11 64), .ref (u11 27), .ref (u11 28), .ref (u11 29), .ref (u11 30), .ref (u11 31), .ref (u11 32), .ref (u11 33), .ref (u11 34), .ref (u11 35), .ref (u11 36), .ref (u11 37), .ref (u11 38), .ref (u11 65), .int 0, .int 0, .int 0, .int 0, .int 0, .long 0, .int 0, .int 0, .int 0, .int 0, .int 0, .int (-1), .int 0, .ref (u11 39), .ref (u11 40), .ref (u11 41), .ref (u11 42), .ref (u11 43), .int 0, .int 0, .ref (u11 44), .ref (u11 45), .ref (u11 46), .ref (u11 47), .ref (u11 48), .ref (u11 49), .ref (u11 50), .ref (u11 51), .int 0, .int 0, .int 0, .int 0, .ref (u11 52), .ref (u11 53), .int 0, .ref (u11 54), .ref (u11 55), .ref (u11 56), .ref (u11 57), .ref (u11 58), .ref (u11 59)])), (u11 20, .inl (K 0, 4096, .inl (fun _ => 0)))] H := hP
      have hD : va_D A [(q9, .inr (12, [.int 0, .int 4, .int 4, .ref (u11 0), .ref (u11 1), .ref (u11 2), .ref (u11 3), .int 0, .ref (u11 4), .ref (u11 5), .int 0, .ref (u11 6), .ref (u11 7), .ref (u11 8), .ref (u11 9), .ref (u11 10), .ref (u11 11), .ref (u11 12), .int 0, .ref (u11 13), .ref (u11 14), .ref (u11 15), .ref (u11 16), .ref (u11 17), .ref (u11 18), .int 0, .ref (u11 19), .int 0, .int 0, .int 0, .ref (u11 20), .int 0, .int 0, .ref (u11 21), .int 0, .ref (u11 60), .ref (u11 22), .ref (u11 23), .ref (u11 24), .ref (u11 61), .ref (u11 25), .ref (u11 26), .ref (u11 62), .ref (u11 63), .ref (u11 64), .ref (u11 27), .ref (u11 28), .ref (u11 29), .ref (u11 30), .ref (u11 31), .ref (u11 32), .ref (u11 33), .ref (u11 34), .ref (u11 35), .ref (u11 36), .ref (u11 37), .ref (u11 38), .ref (u11 65), .int 0, .int 0, .int 0, .int 0, .int 0, .long 0, .int 0, .int 0, .int 0, .int 0, .int 0, .int (-1), .int 0, .ref (u11 39), .ref (u11 40), .ref (u11 41), .ref (u11 42), .ref (u11 43), .int 0, .int 0, .ref (u11 44), .ref (u11 45), .ref (u11 46), .ref (u11 47), .ref (u11 48), .ref (u11 49), .ref (u11 50), .ref (u11 51), .int 0, .int 0, .int 0, .int 0, .ref (u11 52), .ref (u11 53), .int 0, .ref (u11 54), .ref (u11 55), .ref (u11 56), .ref (u11 57), .ref (u11 58), .ref (u11 59)])), (u11 20, .inl (K 0, 4096, .inl (fun _ => 0)))] := hD
      refine lv_aload_n hx hb dL_law_934 rfl (lv_at hl 1 rfl) ?_
      refine lv_aload_n hx hb dL_law_935 rfl (lv_at hl 3 rfl) ?_
      refine lv_pc (q := 936) rfl ?_
      refine lv_iload_n hx hb dL_law_936 rfl (lv_at hl 0 rfl) ?_
      refine lv_iconst (v := 1) hx hb dL_law_937 (by decide) ?_
      refine lv_iadd hx hb dL_law_938 ?_
      refine lv_fixi (y := 1) (by decide) ?_
      refine va_sld (i := 1) hx hb hX hbl hbA hS (by show ¬ (_ ∨ _); decide) dL_law_939 ?_
      refine lv_fixi (y := (xs 1)) rfl ?_
      refine lv_aload_n hx hb dL_law_940 rfl (lv_at hl 3 rfl) ?_
      refine lv_iload_n hx hb dL_law_941 rfl (lv_at hl 0 rfl) ?_
      refine lv_pc (q := 942) rfl ?_
      refine lv_iconst (v := 2) hx hb dL_law_942 (by decide) ?_
      refine lv_iadd hx hb dL_law_943 ?_
      refine lv_fixi (y := 2) (by decide) ?_
      refine va_sld (i := 2) hx hb hX hbl hbA hS (by show ¬ (_ ∨ _); decide) dL_law_944 ?_
      refine lv_fixi (y := (xs 2)) rfl ?_
      refine lv_aload_n hx hb dL_law_945 rfl (lv_at hl 3 rfl) ?_
      refine lv_iload_n hx hb dL_law_946 rfl (lv_at hl 0 rfl) ?_
      refine lv_iconst (v := 3) hx hb dL_law_947 (by decide) ?_
      refine lv_pc (q := 948) rfl ?_
      refine lv_iadd hx hb dL_law_948 ?_
      refine lv_fixi (y := 3) (by decide) ?_
      refine va_sld (i := 3) hx hb hX hbl hbA hS (by show ¬ (_ ∨ _); decide) dL_law_949 ?_
      refine lv_fixi (y := (xs 3)) rfl ?_
      refine lv_aload_n hx hb dL_law_950 rfl (lv_at hl 3 rfl) ?_
      refine lv_iload_n hx hb dL_law_951 rfl (lv_at hl 0 rfl) ?_
      refine lv_iconst (v := 4) hx hb dL_law_952 (by decide) ?_
      refine lv_iadd hx hb dL_law_953 ?_
      refine lv_fixi (y := 4) (by decide) ?_
      refine lv_pc (q := 954) rfl ?_
      refine va_sld (i := 4) hx hb hX hbl hbA hS (by show ¬ (_ ∨ _); decide) dL_law_954 ?_
      refine lv_fixi (y := (xs 4)) rfl ?_
      refine uVi (As := [.int (xs 1), .int (xs 2), .int (xs 3), .int (xs 4)]) (rest := [.int 0]) (wr := []) [(q9, .inr (12, [.int 0, .int 4, .int 4, .ref (u11 0), .ref (u11 1), .ref (u11 2), .ref (u11 3), .int 0, .ref (u11 4), .ref (u11 5), .int 0, .ref (u11 6), .ref (u11 7), .ref (u11 8), .ref (u11 9), .ref (u11 10), .ref (u11 11), .ref (u11 12), .int 0, .ref (u11 13), .ref (u11 14), .ref (u11 15), .ref (u11 16), .ref (u11 17), .ref (u11 18), .int 0, .ref (u11 19), .int 0, .int 0, .int 0, .ref (u11 20), .int 0, .int 0, .ref (u11 21), .int 0, .ref (u11 60), .ref (u11 22), .ref (u11 23), .ref (u11 24), .ref (u11 61), .ref (u11 25), .ref (u11 26), .ref (u11 62), .ref (u11 63), .ref (u11 64), .ref (u11 27), .ref (u11 28), .ref (u11 29), .ref (u11 30), .ref (u11 31), .ref (u11 32), .ref (u11 33), .ref (u11 34), .ref (u11 35), .ref (u11 36), .ref (u11 37), .ref (u11 38), .ref (u11 65), .int 0, .int 0, .int 0, .int 0, .int 0, .long 0, .int 0, .int 0, .int 0, .int 0, .int 0, .int (-1), .int 0, .ref (u11 39), .ref (u11 40), .ref (u11 41), .ref (u11 42), .ref (u11 43), .int 0, .int 0, .ref (u11 44), .ref (u11 45), .ref (u11 46), .ref (u11 47), .ref (u11 48), .ref (u11 49), .ref (u11 50), .ref (u11 51), .int 0, .int 0, .int 0, .int 0, .ref (u11 52), .ref (u11 53), .int 0, .ref (u11 54), .ref (u11 55), .ref (u11 56), .ref (u11 57), .ref (u11 58), .ref (u11 59)])), (u11 20, .inl (K 0, 4096, .inl (fun _ => 0)))] B hl.1 hP hD hS [0, 1] [] rfl rfl rfl (kX12_join_119 l D K _ q9 (u11 20) (u11 0) (u11 1) (u11 2) (u11 3) (u11 4) (u11 5) (u11 6) (u11 7) (u11 8) (u11 9) (u11 10) (u11 11) (u11 12) (u11 13) (u11 14) (u11 15) (u11 16) (u11 17) (u11 18) (u11 19) (u11 21) (u11 60) (u11 22) (u11 23) (u11 24) (u11 61) (u11 25) (u11 26) (u11 62) (u11 63) (u11 64) (u11 27) (u11 28) (u11 29) (u11 30) (u11 31) (u11 32) (u11 33) (u11 34) (u11 35) (u11 36) (u11 37) (u11 38) (u11 65) (u11 39) (u11 40) (u11 41) (u11 42) (u11 43) (u11 44) (u11 45) (u11 46) (u11 47) (u11 48) (u11 49) (u11 50) (u11 51) (u11 52) (u11 53) (u11 54) (u11 55) (u11 56) (u11 57) (u11 58) (u11 59) (fun _ => 0) (xs 1) (xs 2) (xs 3) (xs 4)) wd_X12_join mml_L_92 rfl rfl rfl rfl ⟨Nat.le_of_ble_eq_true rfl, Nat.le_of_ble_eq_true rfl⟩ (Nat.le_of_ble_eq_true rfl) ⟨Nat.le_of_ble_eq_true rfl, Nat.le_of_ble_eq_true rfl⟩ dL_law_955 (fun r299 u H locs hw hP hD hS => ?_)
      try dsimp only at hw
      rcases hw with ⟨rfl, w300⟩ | ⟨rfl, ⟨w301, w302, w303, w304, w305, w306, w307⟩⟩
      · have hP : va_P D vwCl [] H := hP
        have hD : va_D A [] := hD
        exfalso
        try simp only [fa_lt, fa_le, fa_eq, Int32.reduceToInt] at w289 w300
        omega
      have hP : va_P D vwCl [] H := hP
      have hD : va_D A [] := hD
      refine lv_icmp_eq (tgt := 1474) hx hb dL_law_958 (by decide) (fun _ => ?_) (fun h9 => absurd (by decide) h9)
      refine lv_iinc (v := 7) (lv' := [(3, .int 7), (2, .ref q9), (1, .ref q1), (0, .ref b)]) hx hb dL_law_1474 hl (k := 0) rfl (by decide) (by decide) rfl (fun ls hl => ?_)
      refine lv_goto (tgt := 18) hx hb dL_law_1477 (by decide) ?_
      refine lv_iload_n hx hb dL_law_18 rfl (lv_at hl 0 rfl) ?_
      refine lv_pc (q := 19) rfl ?_
      refine lv_aload_n hx hb dL_law_19 rfl (lv_at hl 3 rfl) ?_
      refine va_slen hx hb hX hbl hbA hS dL_law_20 ?_
      refine lv_fixi (y := 7) (by decide) ?_
      refine lv_bipush (v := 7) hx hb dL_law_21 (by decide) ?_
      refine lv_isub hx hb dL_law_23 ?_
      refine lv_fixi (y := 0) (by decide) ?_
      refine lv_icmp_gt (tgt := 1480) hx hb dL_law_24 (by decide) (fun _ => ?_) (fun h9 => absurd (by decide) h9)
      refine lv_iconst (v := 1) hx hb dL_law_1480 (by decide) ?_
      refine lv_pc (q := 1481) rfl ?_
      refine va_forget (fun q hq => by have h9 := hS.2.2 q hq; rw [hAe] at h9; exact h9) ?_
      refine W.widen (k := 600000) (n := 7302250) (by decide) (by decide) ?_
      exact lw_ret hx hb hr hlocks dL_law_1481
    · refine lv_fixi (y := 17) ejj ?_
      refine lv_tableIn (off := 930) (tgt := 963) hx hb dL_law_33 (by decide) (by decide) rfl (by decide) ?_
      replace hP := uSub (wc := [(q1, .inr (11, [.ref (u3 0), .ref (u3 7), .ref (u3 16), .ref (u3 17), .ref (u3 24), .ref (u3 27), .ref (u3 30), .ref (u3 33), .ref (u3 62), .ref (u3 77), .ref (u3 50)])), (u3 27, .inr (6, [.ref (u3 28), .ref (u3 29), .int 0, .int (-1), .int 0])), (q9, .inr (12, [.int 0, .int 4, .int 4, .ref (u11 0), .ref (u11 1), .ref (u11 2), .ref (u11 3), .int 0, .ref (u11 4), .ref (u11 5), .int 0, .ref (u11 6), .ref (u11 7), .ref (u11 8), .ref (u11 9), .ref (u11 10), .ref (u11 11), .ref (u11 12), .int 0, .ref (u11 13), .ref (u11 14), .ref (u11 15), .ref (u11 16), .ref (u11 17), .ref (u11 18), .int 0, .ref (u11 19), .int 0, .int 0, .int 0, .ref (u11 20), .int 0, .int 0, .ref (u11 21), .int 0, .ref (u11 60), .ref (u11 22), .ref (u11 23), .ref (u11 24), .ref (u11 61), .ref (u11 25), .ref (u11 26), .ref (u11 62), .ref (u11 63), .ref (u11 64), .ref (u11 27), .ref (u11 28), .ref (u11 29), .ref (u11 30), .ref (u11 31), .ref (u11 32), .ref (u11 33), .ref (u11 34), .ref (u11 35), .ref (u11 36), .ref (u11 37), .ref (u11 38), .ref (u11 65), .int 0, .int 0, .int 0, .int 0, .int 0, .long 0, .int 0, .int 0, .int 0, .int 0, .int 0, .int (-1), .int 0, .ref (u11 39), .ref (u11 40), .ref (u11 41), .ref (u11 42), .ref (u11 43), .int 0, .int 0, .ref (u11 44), .ref (u11 45), .ref (u11 46), .ref (u11 47), .ref (u11 48), .ref (u11 49), .ref (u11 50), .ref (u11 51), .int 0, .int 0, .int 0, .int 0, .ref (u11 52), .ref (u11 53), .int 0, .ref (u11 54), .ref (u11 55), .ref (u11 56), .ref (u11 57), .ref (u11 58), .ref (u11 59)]))]) hP [0, 28, 97] rfl
      replace hD := hD.sub (ws' := [(q1, .inr (11, [.ref (u3 0), .ref (u3 7), .ref (u3 16), .ref (u3 17), .ref (u3 24), .ref (u3 27), .ref (u3 30), .ref (u3 33), .ref (u3 62), .ref (u3 77), .ref (u3 50)])), (u3 27, .inr (6, [.ref (u3 28), .ref (u3 29), .int 0, .int (-1), .int 0])), (q9, .inr (12, [.int 0, .int 4, .int 4, .ref (u11 0), .ref (u11 1), .ref (u11 2), .ref (u11 3), .int 0, .ref (u11 4), .ref (u11 5), .int 0, .ref (u11 6), .ref (u11 7), .ref (u11 8), .ref (u11 9), .ref (u11 10), .ref (u11 11), .ref (u11 12), .int 0, .ref (u11 13), .ref (u11 14), .ref (u11 15), .ref (u11 16), .ref (u11 17), .ref (u11 18), .int 0, .ref (u11 19), .int 0, .int 0, .int 0, .ref (u11 20), .int 0, .int 0, .ref (u11 21), .int 0, .ref (u11 60), .ref (u11 22), .ref (u11 23), .ref (u11 24), .ref (u11 61), .ref (u11 25), .ref (u11 26), .ref (u11 62), .ref (u11 63), .ref (u11 64), .ref (u11 27), .ref (u11 28), .ref (u11 29), .ref (u11 30), .ref (u11 31), .ref (u11 32), .ref (u11 33), .ref (u11 34), .ref (u11 35), .ref (u11 36), .ref (u11 37), .ref (u11 38), .ref (u11 65), .int 0, .int 0, .int 0, .int 0, .int 0, .long 0, .int 0, .int 0, .int 0, .int 0, .int 0, .int (-1), .int 0, .ref (u11 39), .ref (u11 40), .ref (u11 41), .ref (u11 42), .ref (u11 43), .int 0, .int 0, .ref (u11 44), .ref (u11 45), .ref (u11 46), .ref (u11 47), .ref (u11 48), .ref (u11 49), .ref (u11 50), .ref (u11 51), .int 0, .int 0, .int 0, .int 0, .ref (u11 52), .ref (u11 53), .int 0, .ref (u11 54), .ref (u11 55), .ref (u11 56), .ref (u11 57), .ref (u11 58), .ref (u11 59)]))]) [0, 28, 97] rfl rfl
      refine lv_pc (q := 963) rfl ?_
      refine lv_aload_n hx hb dL_law_963 rfl (lv_at hl 2 rfl) ?_
      refine lv_aload_n hx hb dL_law_964 rfl (lv_at hl 3 rfl) ?_
      refine lv_iload_n hx hb dL_law_965 rfl (lv_at hl 0 rfl) ?_
      refine lv_iconst (v := 1) hx hb dL_law_966 (by decide) ?_
      refine lv_iadd hx hb dL_law_967 ?_
      refine lv_fixi (y := 1) (by decide) ?_
      refine va_sld (i := 1) hx hb hX hbl hbA hS (by show ¬ (_ ∨ _); decide) dL_law_968 ?_
      refine lv_fixi (y := (xs 1)) rfl ?_
      refine lv_pc (q := 969) rfl ?_
      refine lv_aload_n hx hb dL_law_969 rfl (lv_at hl 3 rfl) ?_
      refine lv_iload_n hx hb dL_law_970 rfl (lv_at hl 0 rfl) ?_
      refine lv_iconst (v := 2) hx hb dL_law_971 (by decide) ?_
      refine lv_iadd hx hb dL_law_972 ?_
      refine lv_fixi (y := 2) (by decide) ?_
      refine va_sld (i := 2) hx hb hX hbl hbA hS (by show ¬ (_ ∨ _); decide) dL_law_973 ?_
      refine lv_fixi (y := (xs 2)) rfl ?_
      refine uVi (As := [.int (xs 1), .int (xs 2)]) (rest := []) (wr := [(q9, .inr (12, [.int 0, .int 4, .int 4, .ref (u11 0), .ref (u11 1), .ref (u11 2), .ref (u11 3), .int 0, .ref (u11 4), .ref (u11 5), .int 0, .ref (u11 6), .ref (u11 7), .ref (u11 8), .ref (u11 9), .ref (u11 10), .ref (u11 11), .ref (u11 12), .int 0, .ref (u11 13), .ref (u11 14), .ref (u11 15), .ref (u11 16), .ref (u11 17), .ref (u11 18), .int 0, .ref (u11 19), .int 0, .int 0, .int 0, .ref (u11 20), .int 0, .int 0, .ref (u11 21), .int 0, .ref (u11 60), .ref (u11 22), .ref (u11 23), .ref (u11 24), .ref (u11 61), .ref (u11 25), .ref (u11 26), .ref (u11 62), .ref (u11 63), .ref (u11 64), .ref (u11 27), .ref (u11 28), .ref (u11 29), .ref (u11 30), .ref (u11 31), .ref (u11 32), .ref (u11 33), .ref (u11 34), .ref (u11 35), .ref (u11 36), .ref (u11 37), .ref (u11 38), .ref (u11 65), .int 0, .int 0, .int 0, .int 0, .int 0, .long 0, .int 0, .int 0, .int 0, .int 0, .int 0, .int (-1), .int 0, .ref (u11 39), .ref (u11 40), .ref (u11 41), .ref (u11 42), .ref (u11 43), .int 0, .int 0, .ref (u11 44), .ref (u11 45), .ref (u11 46), .ref (u11 47), .ref (u11 48), .ref (u11 49), .ref (u11 50), .ref (u11 51), .int 0, .int 0, .int 0, .int 0, .ref (u11 52), .ref (u11 53), .int 0, .ref (u11 54), .ref (u11 55), .ref (u11 56), .ref (u11 57), .ref (u11 58), .ref (u11 59)]))]) [(q1, .inr (11, [.ref (u3 0), .ref (u3 7), .ref (u3 16), .ref (u3 17), .ref (u3 24), .ref (u3 27), .ref (u3 30), .ref (u3 33), .ref (u3 62), .ref (u3 77), .ref (u3 50)])), (u3 27, .inr (6, [.ref (u3 28), .ref (u3 29), .int 0, .int (-1), .int 0]))] B hl.1 hP hD hS [0, 1] [2] rfl rfl rfl (kX11_joined_120 l D K _ q1 (u3 27) (u3 0) (u3 7) (u3 16) (u3 17) (u3 24) (u3 30) (u3 33) (u3 62) (u3 77) (u3 50) (u3 28) (u3 29) (xs 1) (xs 2)) wd_X11_joined mml_L_93 rfl rfl rfl rfl ⟨Nat.le_of_ble_eq_true rfl, Nat.le_of_ble_eq_true rfl⟩ (Nat.le_of_ble_eq_true rfl) ⟨Nat.le_of_ble_eq_true rfl, Nat.le_of_ble_eq_true rfl⟩ dL_law_974 (fun r308 u H locs hw hP hD hS => ?_)
      try dsimp only at hw
      rcases hw with rfl
      have hP : va_P D vwCl [(q9, .inr (12, [.int 0, .int 4, .int 4, .ref (u11 0), .ref (u11 1), .ref (u11 2), .ref (u11 3), .int 0, .ref (u11 4), .ref (u11 5), .int 0, .ref (u11 6), .ref (u11 7), .ref (u11 8), .ref (u11 9), .ref (u11 10), .ref (u11 11), .ref (u11 12), .int 0, .ref (u11 13), .ref (u11 14), .ref (u11 15), .ref (u11 16), .ref (u11 17), .ref (u11 18), .int 0, .ref (u11 19), .int 0, .int 0, .int 0, .ref (u11 20), .int 0, .int 0, .ref (u11 21), .int 0, .ref (u11 60), .ref (u11 22), .ref (u11 23), .ref (u11 24), .ref (u11 61), .ref (u11 25), .ref (u11 26), .ref (u11 62), .ref (u11 63), .ref (u11 64), .ref (u11 27), .ref (u11 28), .ref (u11 29), .ref (u11 30), .ref (u11 31), .ref (u11 32), .ref (u11 33), .ref (u11 34), .ref (u11 35), .ref (u11 36), .ref (u11 37), .ref (u11 38), .ref (u11 65), .int 0, .int 0, .int 0, .int 0, .int 0, .long 0, .int 0, .int 0, .int 0, .int 0, .int 0, .int (-1), .int 0, .ref (u11 39), .ref (u11 40), .ref (u11 41), .ref (u11 42), .ref (u11 43), .int 0, .int 0, .ref (u11 44), .ref (u11 45), .ref (u11 46), .ref (u11 47), .ref (u11 48), .ref (u11 49), .ref (u11 50), .ref (u11 51), .int 0, .int 0, .int 0, .int 0, .ref (u11 52), .ref (u11 53), .int 0, .ref (u11 54), .ref (u11 55), .ref (u11 56), .ref (u11 57), .ref (u11 58), .ref (u11 59)]))] H := hP
      have hD : va_D A [(q9, .inr (12, [.int 0, .int 4, .int 4, .ref (u11 0), .ref (u11 1), .ref (u11 2), .ref (u11 3), .int 0, .ref (u11 4), .ref (u11 5), .int 0, .ref (u11 6), .ref (u11 7), .ref (u11 8), .ref (u11 9), .ref (u11 10), .ref (u11 11), .ref (u11 12), .int 0, .ref (u11 13), .ref (u11 14), .ref (u11 15), .ref (u11 16), .ref (u11 17), .ref (u11 18), .int 0, .ref (u11 19), .int 0, .int 0, .int 0, .ref (u11 20), .int 0, .int 0, .ref (u11 21), .int 0, .ref (u11 60), .ref (u11 22), .ref (u11 23), .ref (u11 24), .ref (u11 61), .ref (u11 25), .ref (u11 26), .ref (u11 62), .ref (u11 63), .ref (u11 64), .ref (u11 27), .ref (u11 28), .ref (u11 29), .ref (u11 30), .ref (u11 31), .ref (u11 32), .ref (u11 33), .ref (u11 34), .ref (u11 35), .ref (u11 36), .ref (u11 37), .ref (u11 38), .ref (u11 65), .int 0, .int 0, .int 0, .int 0, .int 0, .long 0, .int 0, .int 0, .int 0, .int 0, .int 0, .int (-1), .int 0, .ref (u11 39), .ref (u11 40), .ref (u11 41), .ref (u11 42), .ref (u11 43), .int 0, .int 0, .ref (u11 44), .ref (u11 45), .ref (u11 46), .ref (u11 47), .ref (u11 48), .ref (u11 49), .ref (u11 50), .ref (u11 51), .int 0, .int 0, .int 0, .int 0, .ref (u11 52), .ref (u11 53), .int 0, .ref (u11 54), .ref (u11 55), .ref (u11 56), .ref (u11 57), .ref (u11 58), .ref (u11 59)]))] := hD
      refine lv_pc (q := 977) rfl ?_
      refine lv_aload_n hx hb dL_law_977 rfl (lv_at hl 1 rfl) ?_
      refine lv_aload_n hx hb dL_law_978 rfl (lv_at hl 3 rfl) ?_
      refine lv_iload_n hx hb dL_law_979 rfl (lv_at hl 0 rfl) ?_
      refine lv_iconst (v := 1) hx hb dL_law_980 (by decide) ?_
      refine lv_iadd hx hb dL_law_981 ?_
      refine lv_fixi (y := 1) (by decide) ?_
      refine va_sld (i := 1) hx hb hX hbl hbA hS (by show ¬ (_ ∨ _); decide) dL_law_982 ?_
      refine lv_fixi (y := (xs 1)) rfl ?_
      refine lv_pc (q := 983) rfl ?_
      refine lv_aload_n hx hb dL_law_983 rfl (lv_at hl 3 rfl) ?_
      refine lv_iload_n hx hb dL_law_984 rfl (lv_at hl 0 rfl) ?_
      refine lv_iconst (v := 2) hx hb dL_law_985 (by decide) ?_
      refine lv_iadd hx hb dL_law_986 ?_
      refine lv_fixi (y := 2) (by decide) ?_
      refine va_sld (i := 2) hx hb hX hbl hbA hS (by show ¬ (_ ∨ _); decide) dL_law_987 ?_
      refine lv_fixi (y := (xs 2)) rfl ?_
      refine uVi (As := [.int (xs 1), .int (xs 2)]) (rest := [.int (-1)]) (wr := []) [(q9, .inr (12, [.int 0, .int 4, .int 4, .ref (u11 0), .ref (u11 1), .ref (u11 2), .ref (u11 3), .int 0, .ref (u11 4), .ref (u11 5), .int 0, .ref (u11 6), .ref (u11 7), .ref (u11 8), .ref (u11 9), .ref (u11 10), .ref (u11 11), .ref (u11 12), .int 0, .ref (u11 13), .ref (u11 14), .ref (u11 15), .ref (u11 16), .ref (u11 17), .ref (u11 18), .int 0, .ref (u11 19), .int 0, .int 0, .int 0, .ref (u11 20), .int 0, .int 0, .ref (u11 21), .int 0, .ref (u11 60), .ref (u11 22), .ref (u11 23), .ref (u11 24), .ref (u11 61), .ref (u11 25), .ref (u11 26), .ref (u11 62), .ref (u11 63), .ref (u11 64), .ref (u11 27), .ref (u11 28), .ref (u11 29), .ref (u11 30), .ref (u11 31), .ref (u11 32), .ref (u11 33), .ref (u11 34), .ref (u11 35), .ref (u11 36), .ref (u11 37), .ref (u11 38), .ref (u11 65), .int 0, .int 0, .int 0, .int 0, .int 0, .long 0, .int 0, .int 0, .int 0, .int 0, .int 0, .int (-1), .int 0, .ref (u11 39), .ref (u11 40), .ref (u11 41), .ref (u11 42), .ref (u11 43), .int 0, .int 0, .ref (u11 44), .ref (u11 45), .ref (u11 46), .ref (u11 47), .ref (u11 48), .ref (u11 49), .ref (u11 50), .ref (u11 51), .int 0, .int 0, .int 0, .int 0, .ref (u11 52), .ref (u11 53), .int 0, .ref (u11 54), .ref (u11 55), .ref (u11 56), .ref (u11 57), .ref (u11 58), .ref (u11 59)]))] B hl.1 hP hD hS [0] [] rfl rfl rfl (kX12_joined_121 l D K _ q9 (u11 0) (u11 1) (u11 2) (u11 3) (u11 4) (u11 5) (u11 6) (u11 7) (u11 8) (u11 9) (u11 10) (u11 11) (u11 12) (u11 13) (u11 14) (u11 15) (u11 16) (u11 17) (u11 18) (u11 19) (u11 20) (u11 21) (u11 60) (u11 22) (u11 23) (u11 24) (u11 61) (u11 25) (u11 26) (u11 62) (u11 63) (u11 64) (u11 27) (u11 28) (u11 29) (u11 30) (u11 31) (u11 32) (u11 33) (u11 34) (u11 35) (u11 36) (u11 37) (u11 38) (u11 65) (u11 39) (u11 40) (u11 41) (u11 42) (u11 43) (u11 44) (u11 45) (u11 46) (u11 47) (u11 48) (u11 49) (u11 50) (u11 51) (u11 52) (u11 53) (u11 54) (u11 55) (u11 56) (u11 57) (u11 58) (u11 59) (xs 1) (xs 2)) wd_X12_joined mml_L_96 rfl rfl rfl rfl ⟨Nat.le_of_ble_eq_true rfl, Nat.le_of_ble_eq_true rfl⟩ (Nat.le_of_ble_eq_true rfl) ⟨Nat.le_of_ble_eq_true rfl, Nat.le_of_ble_eq_true rfl⟩ dL_law_988 (fun r309 u H locs hw hP hD hS => ?_)
      try dsimp only at hw
      rcases hw with rfl
      have hP : va_P D vwCl [] H := hP
      have hD : va_D A [] := hD
      refine lv_pc (q := 991) rfl ?_
      refine lv_icmp_eq (tgt := 1474) hx hb dL_law_991 (by decide) (fun _ => ?_) (fun h9 => absurd (by decide) h9)
      refine lv_iinc (v := 7) (lv' := [(3, .int 7), (2, .ref q9), (1, .ref q1), (0, .ref b)]) hx hb dL_law_1474 hl (k := 0) rfl (by decide) (by decide) rfl (fun ls hl => ?_)
      refine lv_goto (tgt := 18) hx hb dL_law_1477 (by decide) ?_
      refine lv_iload_n hx hb dL_law_18 rfl (lv_at hl 0 rfl) ?_
      refine lv_aload_n hx hb dL_law_19 rfl (lv_at hl 3 rfl) ?_
      refine va_slen hx hb hX hbl hbA hS dL_law_20 ?_
      refine lv_fixi (y := 7) (by decide) ?_
      refine lv_pc (q := 21) rfl ?_
      refine lv_bipush (v := 7) hx hb dL_law_21 (by decide) ?_
      refine lv_isub hx hb dL_law_23 ?_
      refine lv_fixi (y := 0) (by decide) ?_
      refine lv_icmp_gt (tgt := 1480) hx hb dL_law_24 (by decide) (fun _ => ?_) (fun h9 => absurd (by decide) h9)
      refine lv_iconst (v := 1) hx hb dL_law_1480 (by decide) ?_
      refine va_forget (fun q hq => by have h9 := hS.2.2 q hq; rw [hAe] at h9; exact h9) ?_
      refine W.widen (k := 600000) (n := 7302250) (by decide) (by decide) ?_
      exact lw_ret hx hb hr hlocks dL_law_1481
    · refine lv_fixi (y := 18) ejj ?_
      refine lv_tableIn (off := 963) (tgt := 996) hx hb dL_law_33 (by decide) (by decide) rfl (by decide) ?_
      replace hP := uSub (wc := [(q1, .inr (11, [.ref (u3 0), .ref (u3 7), .ref (u3 16), .ref (u3 17), .ref (u3 24), .ref (u3 27), .ref (u3 30), .ref (u3 33), .ref (u3 62), .ref (u3 77), .ref (u3 50)])), (u3 27, .inr (6, [.ref (u3 28), .ref (u3 29), .int 0, .int (-1), .int 0])), (q9, .inr (12, [.int 0, .int 4, .int 4, .ref (u11 0), .ref (u11 1), .ref (u11 2), .ref (u11 3), .int 0, .ref (u11 4), .ref (u11 5), .int 0, .ref (u11 6), .ref (u11 7), .ref (u11 8), .ref (u11 9), .ref (u11 10), .ref (u11 11), .ref (u11 12), .int 0, .ref (u11 13), .ref (u11 14), .ref (u11 15), .ref (u11 16), .ref (u11 17), .ref (u11 18), .int 0, .ref (u11 19), .int 0, .int 0, .int 0, .ref (u11 20), .int 0, .int 0, .ref (u11 21), .int 0, .ref (u11 60), .ref (u11 22), .ref (u11 23), .ref (u11 24), .ref (u11 61), .ref (u11 25), .ref (u11 26), .ref (u11 62), .ref (u11 63), .ref (u11 64), .ref (u11 27), .ref (u11 28), .ref (u11 29), .ref (u11 30), .ref (u11 31), .ref (u11 32), .ref (u11 33), .ref (u11 34), .ref (u11 35), .ref (u11 36), .ref (u11 37), .ref (u11 38), .ref (u11 65), .int 0, .int 0, .int 0, .int 0, .int 0, .long 0, .int 0, .int 0, .int 0, .int 0, .int 0, .int (-1), .int 0, .ref (u11 39), .ref (u11 40), .ref (u11 41), .ref (u11 42), .ref (u11 43), .int 0, .int 0, .ref (u11 44), .ref (u11 45), .ref (u11 46), .ref (u11 47), .ref (u11 48), .ref (u11 49), .ref (u11 50), .ref (u11 51), .int 0, .int 0, .int 0, .int 0, .ref (u11 52), .ref (u11 53), .int 0, .ref (u11 54), .ref (u11 55), .ref (u11 56), .ref (u11 57), .ref (u11 58), .ref (u11 59)]))]) hP [0, 28, 97] rfl
      replace hD := hD.sub (ws' := [(q1, .inr (11, [.ref (u3 0), .ref (u3 7), .ref (u3 16), .ref (u3 17), .ref (u3 24), .ref (u3 27), .ref (u3 30), .ref (u3 33), .ref (u3 62), .ref (u3 77), .ref (u3 50)])), (u3 27, .inr (6, [.ref (u3 28), .ref (u3 29), .int 0, .int (-1), .int 0])), (q9, .inr (12, [.int 0, .int 4, .int 4, .ref (u11 0), .ref (u11 1), .ref (u11 2), .ref (u11 3), .int 0, .ref (u11 4), .ref (u11 5), .int 0, .ref (u11 6), .ref (u11 7), .ref (u11 8), .ref (u11 9), .ref (u11 10), .ref (u11 11), .ref (u11 12), .int 0, .ref (u11 13), .ref (u11 14), .ref (u11 15), .ref (u11 16), .ref (u11 17), .ref (u11 18), .int 0, .ref (u11 19), .int 0, .int 0, .int 0, .ref (u11 20), .int 0, .int 0, .ref (u11 21), .int 0, .ref (u11 60), .ref (u11 22), .ref (u11 23), .ref (u11 24), .ref (u11 61), .ref (u11 25), .ref (u11 26), .ref (u11 62), .ref (u11 63), .ref (u11 64), .ref (u11 27), .ref (u11 28), .ref (u11 29), .ref (u11 30), .ref (u11 31), .ref (u11 32), .ref (u11 33), .ref (u11 34), .ref (u11 35), .ref (u11 36), .ref (u11 37), .ref (u11 38), .ref (u11 65), .int 0, .int 0, .int 0, .int 0, .int 0, .long 0, .int 0, .int 0, .int 0, .int 0, .int 0, .int (-1), .int 0, .ref (u11 39), .ref (u11 40), .ref (u11 41), .ref (u11 42), .ref (u11 43), .int 0, .int 0, .ref (u11 44), .ref (u11 45), .ref (u11 46), .ref (u11 47), .ref (u11 48), .ref (u11 49), .ref (u11 50), .ref (u11 51), .int 0, .int 0, .int 0, .int 0, .ref (u11 52), .ref (u11 53), .int 0, .ref (u11 54), .ref (u11 55), .ref (u11 56), .ref (u11 57), .ref (u11 58), .ref (u11 59)]))]) [0, 28, 97] rfl rfl
      refine lv_pc (q := 996) rfl ?_
      refine lv_aload_n hx hb dL_law_996 rfl (lv_at hl 2 rfl) ?_
      refine uVi (As := []) (rest := []) (wr := [(q9, .inr (12, [.int 0, .int 4, .int 4, .ref (u11 0), .ref (u11 1), .ref (u11 2), .ref (u11 3), .int 0, .ref (u11 4), .ref (u11 5), .int 0, .ref (u11 6), .ref (u11 7), .ref (u11 8), .ref (u11 9), .ref (u11 10), .ref (u11 11), .ref (u11 12), .int 0, .ref (u11 13), .ref (u11 14), .ref (u11 15), .ref (u11 16), .ref (u11 17), .ref (u11 18), .int 0, .ref (u11 19), .int 0, .int 0, .int 0, .ref (u11 20), .int 0, .int 0, .ref (u11 21), .int 0, .ref (u11 60), .ref (u11 22), .ref (u11 23), .ref (u11 24), .ref (u11 61), .ref (u11 25), .ref (u11 26), .ref (u11 62), .ref (u11 63), .ref (u11 64), .ref (u11 27), .ref (u11 28), .ref (u11 29), .ref (u11 30), .ref (u11 31), .ref (u11 32), .ref (u11 33), .ref (u11 34), .ref (u11 35), .ref (u11 36), .ref (u11 37), .ref (u11 38), .ref (u11 65), .int 0, .int 0, .int 0, .int 0, .int 0, .long 0, .int 0, .int 0, .int 0, .int 0, .int 0, .int (-1), .int 0, .ref (u11 39), .ref (u11 40), .ref (u11 41), .ref (u11 42), .ref (u11 43), .int 0, .int 0, .ref (u11 44), .ref (u11 45), .ref (u11 46), .ref (u11 47), .ref (u11 48), .ref (u11 49), .ref (u11 50), .ref (u11 51), .int 0, .int 0, .int 0, .int 0, .ref (u11 52), .ref (u11 53), .int 0, .ref (u11 54), .ref (u11 55), .ref (u11 56), .ref (u11 57), .ref (u11 58), .ref (u11 59)]))]) [(q1, .inr (11, [.ref (u3 0), .ref (u3 7), .ref (u3 16), .ref (u3 17), .ref (u3 24), .ref (u3 27), .ref (u3 30), .ref (u3 33), .ref (u3 62), .ref (u3 77), .ref (u3 50)])), (u3 27, .inr (6, [.ref (u3 28), .ref (u3 29), .int 0, .int (-1), .int 0]))] B hl.1 hP hD hS [0, 1] [2] rfl rfl rfl (kX11_dig_122 l D K _ q1 (u3 27) (u3 0) (u3 7) (u3 16) (u3 17) (u3 24) (u3 30) (u3 33) (u3 62) (u3 77) (u3 50) (u3 28) (u3 29)) wd_X11_dig mml_L_97 rfl rfl rfl rfl ⟨Nat.le_of_ble_eq_true rfl, Nat.le_of_ble_eq_true rfl⟩ (Nat.le_of_ble_eq_true rfl) ⟨Nat.le_of_ble_eq_true rfl, Nat.le_of_ble_eq_true rfl⟩ dL_law_997 (fun r310 u H locs hw hP hD hS => ?_)
      try dsimp only at hw
      rcases hw with rfl
      have hP : va_P D vwCl [(q9, .inr (12, [.int 0, .int 4, .int 4, .ref (u11 0), .ref (u11 1), .ref (u11 2), .ref (u11 3), .int 0, .ref (u11 4), .ref (u11 5), .int 0, .ref (u11 6), .ref (u11 7), .ref (u11 8), .ref (u11 9), .ref (u11 10), .ref (u11 11), .ref (u11 12), .int 0, .ref (u11 13), .ref (u11 14), .ref (u11 15), .ref (u11 16), .ref (u11 17), .ref (u11 18), .int 0, .ref (u11 19), .int 0, .int 0, .int 0, .ref (u11 20), .int 0, .int 0, .ref (u11 21), .int 0, .ref (u11 60), .ref (u11 22), .ref (u11 23), .ref (u11 24), .ref (u11 61), .ref (u11 25), .ref (u11 26), .ref (u11 62), .ref (u11 63), .ref (u11 64), .ref (u11 27), .ref (u11 28), .ref (u11 29), .ref (u11 30), .ref (u11 31), .ref (u11 32), .ref (u11 33), .ref (u11 34), .ref (u11 35), .ref (u11 36), .ref (u11 37), .ref (u11 38), .ref (u11 65), .int 0, .int 0, .int 0, .int 0, .int 0, .long 0, .int 0, .int 0, .int 0, .int 0, .int 0, .int (-1), .int 0, .ref (u11 39), .ref (u11 40), .ref (u11 41), .ref (u11 42), .ref (u11 43), .int 0, .int 0, .ref (u11 44), .ref (u11 45), .ref (u11 46), .ref (u11 47), .ref (u11 48), .ref (u11 49), .ref (u11 50), .ref (u11 51), .int 0, .int 0, .int 0, .int 0, .ref (u11 52), .ref (u11 53), .int 0, .ref (u11 54), .ref (u11 55), .ref (u11 56), .ref (u11 57), .ref (u11 58), .ref (u11 59)]))] H := hP
      have hD : va_D A [(q9, .inr (12, [.int 0, .int 4, .int 4, .ref (u11 0), .ref (u11 1), .ref (u11 2), .ref (u11 3), .int 0, .ref (u11 4), .ref (u11 5), .int 0, .ref (u11 6), .ref (u11 7), .ref (u11 8), .ref (u11 9), .ref (u11 10), .ref (u11 11), .ref (u11 12), .int 0, .ref (u11 13), .ref (u11 14), .ref (u11 15), .ref (u11 16), .ref (u11 17), .ref (u11 18), .int 0, .ref (u11 19), .int 0, .int 0, .int 0, .ref (u11 20), .int 0, .int 0, .ref (u11 21), .int 0, .ref (u11 60), .ref (u11 22), .ref (u11 23), .ref (u11 24), .ref (u11 61), .ref (u11 25), .ref (u11 26), .ref (u11 62), .ref (u11 63), .ref (u11 64), .ref (u11 27), .ref (u11 28), .ref (u11 29), .ref (u11 30), .ref (u11 31), .ref (u11 32), .ref (u11 33), .ref (u11 34), .ref (u11 35), .ref (u11 36), .ref (u11 37), .ref (u11 38), .ref (u11 65), .int 0, .int 0, .int 0, .int 0, .int 0, .long 0, .int 0, .int 0, .int 0, .int 0, .int 0, .int (-1), .int 0, .ref (u11 39), .ref (u11 40), .ref (u11 41), .ref (u11 42), .ref (u11 43), .int 0, .int 0, .ref (u11 44), .ref (u11 45), .ref (u11 46), .ref (u11 47), .ref (u11 48), .ref (u11 49), .ref (u11 50), .ref (u11 51), .int 0, .int 0, .int 0, .int 0, .ref (u11 52), .ref (u11 53), .int 0, .ref (u11 54), .ref (u11 55), .ref (u11 56), .ref (u11 57), .ref (u11 58), .ref (u11 59)]))] := hD
      refine lv_aload_n hx hb dL_law_1000 rfl (lv_at hl 1 rfl) ?_
      refine uVi (As := []) (rest := [.int (-1)]) (wr := []) [(q9, .inr (12, [.int 0, .int 4, .int 4, .ref (u11 0), .ref (u11 1), .ref (u11 2), .ref (u11 3), .int 0, .ref (u11 4), .ref (u11 5), .int 0, .ref (u11 6), .ref (u11 7), .ref (u11 8), .ref (u11 9), .ref (u11 10), .ref (u11 11), .ref (u11 12), .int 0, .ref (u11 13), .ref (u11 14), .ref (u11 15), .ref (u11 16), .ref (u11 17), .ref (u11 18), .int 0, .ref (u11 19), .int 0, .int 0, .int 0, .ref (u11 20), .int 0, .int 0, .ref (u11 21), .int 0, .ref (u11 60), .ref (u11 22), .ref (u11 23), .ref (u11 24), .ref (u11 61), .ref (u11 25), .ref (u11 26), .ref (u11 62), .ref (u11 63), .ref (u11 64), .ref (u11 27), .ref (u11 28), .ref (u11 29), .ref (u11 30), .ref (u11 31), .ref (u11 32), .ref (u11 33), .ref (u11 34), .ref (u11 35), .ref (u11 36), .ref (u11 37), .ref (u11 38), .ref (u11 65), .int 0, .int 0, .int 0, .int 0, .int 0, .long 0, .int 0, .int 0, .int 0, .int 0, .int 0, .int (-1), .int 0, .ref (u11 39), .ref (u11 40), .ref (u11 41), .ref (u11 42), .ref (u11 43), .int 0, .int 0, .ref (u11 44), .ref (u11 45), .ref (u11 46), .ref (u11 47), .ref (u11 48), .ref (u11 49), .ref (u11 50), .ref (u11 51), .int 0, .int 0, .int 0, .int 0, .ref (u11 52), .ref (u11 53), .int 0, .ref (u11 54), .ref (u11 55), .ref (u11 56), .ref (u11 57), .ref (u11 58), .ref (u11 59)]))] B hl.1 hP hD hS [0] [] rfl rfl rfl (kX12_dig_123 l D K _ q9 (u11 0) (u11 1) (u11 2) (u11 3) (u11 4) (u11 5) (u11 6) (u11 7) (u11 8) (u11 9) (u11 10) (u11 11) (u11 12) (u11 13) (u11 14) (u11 15) (u11 16) (u11 17) (u11 18) (u11 19) (u11 20) (u11 21) (u11 60) (u11 22) (u11 23) (u11 24) (u11 61) (u11 25) (u11 26) (u11 62) (u11 63) (u11 64) (u11 27) (u11 28) (u11 29) (u11 30) (u11 31) (u11 32) (u11 33) (u11 34) (u11 35) (u11 36) (u11 37) (u11 38) (u11 65) (u11 39) (u11 40) (u11 41) (u11 42) (u11 43) (u11 44) (u11 45) (u11 46) (u11 47) (u11 48) (u11 49) (u11 50) (u11 51) (u11 52) (u11 53) (u11 54) (u11 55) (u11 56) (u11 57) (u11 58) (u11 59)) wd_X12_dig mml_L_100 rfl rfl rfl rfl ⟨Nat.le_of_ble_eq_true rfl, Nat.le_of_ble_eq_true rfl⟩ (Nat.le_of_ble_eq_true rfl) ⟨Nat.le_of_ble_eq_true rfl, Nat.le_of_ble_eq_true rfl⟩ dL_law_1001 (fun r311 u H locs hw hP hD hS => ?_)
      try dsimp only at hw
      rcases hw with rfl
      have hP : va_P D vwCl [] H := hP
      have hD : va_D A [] := hD
      refine lv_icmp_eq (tgt := 1474) hx hb dL_law_1004 (by decide) (fun _ => ?_) (fun h9 => absurd (by decide) h9)
      refine lv_iinc (v := 7) (lv' := [(3, .int 7), (2, .ref q9), (1, .ref q1), (0, .ref b)]) hx hb dL_law_1474 hl (k := 0) rfl (by decide) (by decide) rfl (fun ls hl => ?_)
      refine lv_pc (q := 1477) rfl ?_
      refine lv_goto (tgt := 18) hx hb dL_law_1477 (by decide) ?_
      refine lv_iload_n hx hb dL_law_18 rfl (lv_at hl 0 rfl) ?_
      refine lv_aload_n hx hb dL_law_19 rfl (lv_at hl 3 rfl) ?_
      refine va_slen hx hb hX hbl hbA hS dL_law_20 ?_
      refine lv_fixi (y := 7) (by decide) ?_
      refine lv_bipush (v := 7) hx hb dL_law_21 (by decide) ?_
      refine lv_isub hx hb dL_law_23 ?_
      refine lv_fixi (y := 0) (by decide) ?_
      refine lv_pc (q := 24) rfl ?_
      refine lv_icmp_gt (tgt := 1480) hx hb dL_law_24 (by decide) (fun _ => ?_) (fun h9 => absurd (by decide) h9)
      refine lv_iconst (v := 1) hx hb dL_law_1480 (by decide) ?_
      refine va_forget (fun q hq => by have h9 := hS.2.2 q hq; rw [hAe] at h9; exact h9) ?_
      refine W.widen (k := 600000) (n := 7302250) (by decide) (by decide) ?_
      exact lw_ret hx hb hr hlocks dL_law_1481
    · refine lv_fixi (y := 19) ejj ?_
      refine lv_tableIn (off := 976) (tgt := 1009) hx hb dL_law_33 (by decide) (by decide) rfl (by decide) ?_
      replace hP := uSub (wc := [(q1, .inr (11, [.ref (u3 0), .ref (u3 7), .ref (u3 16), .ref (u3 17), .ref (u3 24), .ref (u3 27), .ref (u3 30), .ref (u3 33), .ref (u3 62), .ref (u3 77), .ref (u3 50)])), (u3 7, .inr (4, [.ref (u3 0), .ref (u3 8), .ref (u3 9), .ref (u3 10), .ref (u3 11), .ref (u3 12), .ref (u3 13), .ref (u3 14), .ref (u3 15), .int 0])), (q9, .inr (12, [.int 0, .int 4, .int 4, .ref (u11 0), .ref (u11 1), .ref (u11 2), .ref (u11 3), .int 0, .ref (u11 4), .ref (u11 5), .int 0, .ref (u11 6), .ref (u11 7), .ref (u11 8), .ref (u11 9), .ref (u11 10), .ref (u11 11), .ref (u11 12), .int 0, .ref (u11 13), .ref (u11 14), .ref (u11 15), .ref (u11 16), .ref (u11 17), .ref (u11 18), .int 0, .ref (u11 19), .int 0, .int 0, .int 0, .ref (u11 20), .int 0, .int 0, .ref (u11 21), .int 0, .ref (u11 60), .ref (u11 22), .ref (u11 23), .ref (u11 24), .ref (u11 61), .ref (u11 25), .ref (u11 26), .ref (u11 62), .ref (u11 63), .ref (u11 64), .ref (u11 27), .ref (u11 28), .ref (u11 29), .ref (u11 30), .ref (u11 31), .ref (u11 32), .ref (u11 33), .ref (u11 34), .ref (u11 35), .ref (u11 36), .ref (u11 37), .ref (u11 38), .ref (u11 65), .int 0, .int 0, .int 0, .int 0, .int 0, .long 0, .int 0, .int 0, .int 0, .int 0, .int 0, .int (-1), .int 0, .ref (u11 39), .ref (u11 40), .ref (u11 41), .ref (u11 42), .ref (u11 43), .int 0, .int 0, .ref (u11 44), .ref (u11 45), .ref (u11 46), .ref (u11 47), .ref (u11 48), .ref (u11 49), .ref (u11 50), .ref (u11 51), .int 0, .int 0, .int 0, .int 0, .ref (u11 52), .ref (u11 53), .int 0, .ref (u11 54), .ref (u11 55), .ref (u11 56), .ref (u11 57), .ref (u11 58), .ref (u11 59)]))]) hP [0, 8, 97] rfl
      replace hD := hD.sub (ws' := [(q1, .inr (11, [.ref (u3 0), .ref (u3 7), .ref (u3 16), .ref (u3 17), .ref (u3 24), .ref (u3 27), .ref (u3 30), .ref (u3 33), .ref (u3 62), .ref (u3 77), .ref (u3 50)])), (u3 7, .inr (4, [.ref (u3 0), .ref (u3 8), .ref (u3 9), .ref (u3 10), .ref (u3 11), .ref (u3 12), .ref (u3 13), .ref (u3 14), .ref (u3 15), .int 0])), (q9, .inr (12, [.int 0, .int 4, .int 4, .ref (u11 0), .ref (u11 1), .ref (u11 2), .ref (u11 3), .int 0, .ref (u11 4), .ref (u11 5), .int 0, .ref (u11 6), .ref (u11 7), .ref (u11 8), .ref (u11 9), .ref (u11 10), .ref (u11 11), .ref (u11 12), .int 0, .ref (u11 13), .ref (u11 14), .ref (u11 15), .ref (u11 16), .ref (u11 17), .ref (u11 18), .int 0, .ref (u11 19), .int 0, .int 0, .int 0, .ref (u11 20), .int 0, .int 0, .ref (u11 21), .int 0, .ref (u11 60), .ref (u11 22), .ref (u11 23), .ref (u11 24), .ref (u11 61), .ref (u11 25), .ref (u11 26), .ref (u11 62), .ref (u11 63), .ref (u11 64), .ref (u11 27), .ref (u11 28), .ref (u11 29), .ref (u11 30), .ref (u11 31), .ref (u11 32), .ref (u11 33), .ref (u11 34), .ref (u11 35), .ref (u11 36), .ref (u11 37), .ref (u11 38), .ref (u11 65), .int 0, .int 0, .int 0, .int 0, .int 0, .long 0, .int 0, .int 0, .int 0, .int 0, .int 0, .int (-1), .int 0, .ref (u11 39), .ref (u11 40), .ref (u11 41), .ref (u11 42), .ref (u11 43), .int 0, .int 0, .ref (u11 44), .ref (u11 45), .ref (u11 46), .ref (u11 47), .ref (u11 48), .ref (u11 49), .ref (u11 50), .ref (u11 51), .int 0, .int 0, .int 0, .int 0, .ref (u11 52), .ref (u11 53), .int 0, .ref (u11 54), .ref (u11 55), .ref (u11 56), .ref (u11 57), .ref (u11 58), .ref (u11 59)]))]) [0, 8, 97] rfl rfl
      refine lv_pc (q := 1009) rfl ?_
      refine lv_aload_n hx hb dL_law_1009 rfl (lv_at hl 2 rfl) ?_
      refine lv_aload_n hx hb dL_law_1010 rfl (lv_at hl 3 rfl) ?_
      refine lv_iload_n hx hb dL_law_1011 rfl (lv_at hl 0 rfl) ?_
      refine lv_iconst (v := 1) hx hb dL_law_1012 (by decide) ?_
      refine lv_iadd hx hb dL_law_1013 ?_
      refine lv_fixi (y := 1) (by decide) ?_
      refine va_sld (i := 1) hx hb hX hbl hbA hS (by show ¬ (_ ∨ _); decide) dL_law_1014 ?_
      refine lv_fixi (y := (xs 1)) rfl ?_
      refine lv_pc (q := 1015) rfl ?_
      refine lv_aload_n hx hb dL_law_1015 rfl (lv_at hl 3 rfl) ?_
      refine lv_iload_n hx hb dL_law_1016 rfl (lv_at hl 0 rfl) ?_
      refine lv_iconst (v := 2) hx hb dL_law_1017 (by decide) ?_
      refine lv_iadd hx hb dL_law_1018 ?_
      refine lv_fixi (y := 2) (by decide) ?_
      refine va_sld (i := 2) hx hb hX hbl hbA hS (by show ¬ (_ ∨ _); decide) dL_law_1019 ?_
      refine lv_fixi (y := (xs 2)) rfl ?_
      refine lv_if_eq (tgt := 1027) hx hb dL_law_1020 (by decide) (fun c312 => ?_) (fun c312 => ?_)
      · refine lv_pc (q := 1027) rfl ?_
        refine lv_iconst (v := 0) hx hb dL_law_1027 (by decide) ?_
        refine uVi (As := [.int (xs 1), .int 0]) (rest := []) (wr := [(q9, .inr (12, [.int 0, .int 4, .int 4, .ref (u11 0), .ref (u11 1), .ref (u11 2), .ref (u11 3), .int 0, .ref (u11 4), .ref (u11 5), .int 0, .ref (u11 6), .ref (u11 7), .ref (u11 8), .ref (u11 9), .ref (u11 10), .ref (u11 11), .ref (u11 12), .int 0, .ref (u11 13), .ref (u11 14), .ref (u11 15), .ref (u11 16), .ref (u11 17), .ref (u11 18), .int 0, .ref (u11 19), .int 0, .int 0, .int 0, .ref (u11 20), .int 0, .int 0, .ref (u11 21), .int 0, .ref (u11 60), .ref (u11 22), .ref (u11 23), .ref (u11 24), .ref (u11 61), .ref (u11 25), .ref (u11 26), .ref (u11 62), .ref (u11 63), .ref (u11 64), .ref (u11 27), .ref (u11 28), .ref (u11 29), .ref (u11 30), .ref (u11 31), .ref (u11 32), .ref (u11 33), .ref (u11 34), .ref (u11 35), .ref (u11 36), .ref (u11 37), .ref (u11 38), .ref (u11 65), .int 0, .int 0, .int 0, .int 0, .int 0, .long 0, .int 0, .int 0, .int 0, .int 0, .int 0, .int (-1), .int 0, .ref (u11 39), .ref (u11 40), .ref (u11 41), .ref (u11 42), .ref (u11 43), .int 0, .int 0, .ref (u11 44), .ref (u11 45), .ref (u11 46), .ref (u11 47), .ref (u11 48), .ref (u11 49), .ref (u11 50), .ref (u11 51), .int 0, .int 0, .int 0, .int 0, .ref (u11 52), .ref (u11 53), .int 0, .ref (u11 54), .ref (u11 55), .ref (u11 56), .ref (u11 57), .ref (u11 58), .ref (u11 59)]))]) [(q1, .inr (11, [.ref (u3 0), .ref (u3 7), .ref (u3 16), .ref (u3 17), .ref (u3 24), .ref (u3 27), .ref (u3 30), .ref (u3 33), .ref (u3 62), .ref (u3 77), .ref (u3 50)])), (u3 7, .inr (4, [.ref (u3 0), .ref (u3 8), .ref (u3 9), .ref (u3 10), .ref (u3 11), .ref (u3 12), .ref (u3 13), .ref (u3 14), .ref (u3 15), .int 0]))] B hl.1 hP hD hS [0, 1] [2] rfl rfl rfl (kX11_dug_124 l D K _ q1 (u3 7) (u3 0) (u3 16) (u3 17) (u3 24) (u3 27) (u3 30) (u3 33) (u3 62) (u3 77) (u3 50) (u3 8) (u3 9) (u3 10) (u3 11) (u3 12) (u3 13) (u3 14) (u3 15) (xs 1)) wd_X11_dug mml_L_101 rfl rfl rfl rfl ⟨Nat.le_of_ble_eq_true rfl, Nat.le_of_ble_eq_true rfl⟩ (Nat.le_of_ble_eq_true rfl) ⟨Nat.le_of_ble_eq_true rfl, Nat.le_of_ble_eq_true rfl⟩ dL_law_1028 (fun r313 u H locs hw hP hD hS => ?_)
        try dsimp only at hw
        rcases hw with ⟨rfl, w314⟩
        have hP : va_P D vwCl [(q9, .inr (12, [.int 0, .int 4, .int 4, .ref (u11 0), .ref (u11 1), .ref (u11 2), .ref (u11 3), .int 0, .ref (u11 4), .ref (u11 5), .int 0, .ref (u11 6), .ref (u11 7), .ref (u11 8), .ref (u11 9), .ref (u11 10), .ref (u11 11), .ref (u11 12), .int 0, .ref (u11 13), .ref (u11 14), .ref (u11 15), .ref (u11 16), .ref (u11 17), .ref (u11 18), .int 0, .ref (u11 19), .int 0, .int 0, .int 0, .ref (u11 20), .int 0, .int 0, .ref (u11 21), .int 0, .ref (u11 60), .ref (u11 22), .ref (u11 23), .ref (u11 24), .ref (u11 61), .ref (u11 25), .ref (u11 26), .ref (u11 62), .ref (u11 63), .ref (u11 64), .ref (u11 27), .ref (u11 28), .ref (u11 29), .ref (u11 30), .ref (u11 31), .ref (u11 32), .ref (u11 33), .ref (u11 34), .ref (u11 35), .ref (u11 36), .ref (u11 37), .ref (u11 38), .ref (u11 65), .int 0, .int 0, .int 0, .int 0, .int 0, .long 0, .int 0, .int 0, .int 0, .int 0, .int 0, .int (-1), .int 0, .ref (u11 39), .ref (u11 40), .ref (u11 41), .ref (u11 42), .ref (u11 43), .int 0, .int 0, .ref (u11 44), .ref (u11 45), .ref (u11 46), .ref (u11 47), .ref (u11 48), .ref (u11 49), .ref (u11 50), .ref (u11 51), .int 0, .int 0, .int 0, .int 0, .ref (u11 52), .ref (u11 53), .int 0, .ref (u11 54), .ref (u11 55), .ref (u11 56), .ref (u11 57), .ref (u11 58), .ref (u11 59)]))] H := hP
        have hD : va_D A [(q9, .inr (12, [.int 0, .int 4, .int 4, .ref (u11 0), .ref (u11 1), .ref (u11 2), .ref (u11 3), .int 0, .ref (u11 4), .ref (u11 5), .int 0, .ref (u11 6), .ref (u11 7), .ref (u11 8), .ref (u11 9), .ref (u11 10), .ref (u11 11), .ref (u11 12), .int 0, .ref (u11 13), .ref (u11 14), .ref (u11 15), .ref (u11 16), .ref (u11 17), .ref (u11 18), .int 0, .ref (u11 19), .int 0, .int 0, .int 0, .ref (u11 20), .int 0, .int 0, .ref (u11 21), .int 0, .ref (u11 60), .ref (u11 22), .ref (u11 23), .ref (u11 24), .ref (u11 61), .ref (u11 25), .ref (u11 26), .ref (u11 62), .ref (u11 63), .ref (u11 64), .ref (u11 27), .ref (u11 28), .ref (u11 29), .ref (u11 30), .ref (u11 31), .ref (u11 32), .ref (u11 33), .ref (u11 34), .ref (u11 35), .ref (u11 36), .ref (u11 37), .ref (u11 38), .ref (u11 65), .int 0, .int 0, .int 0, .int 0, .int 0, .long 0, .int 0, .int 0, .int 0, .int 0, .int 0, .int (-1), .int 0, .ref (u11 39), .ref (u11 40), .ref (u11 41), .ref (u11 42), .ref (u11 43), .int 0, .int 0, .ref (u11 44), .ref (u11 45), .ref (u11 46), .ref (u11 47), .ref (u11 48), .ref (u11 49), .ref (u11 50), .ref (u11 51), .int 0, .int 0, .int 0, .int 0, .ref (u11 52), .ref (u11 53), .int 0, .ref (u11 54), .ref (u11 55), .ref (u11 56), .ref (u11 57), .ref (u11 58), .ref (u11 59)]))] := hD
        refine lv_aload_n hx hb dL_law_1031 rfl (lv_at hl 1 rfl) ?_
        refine lv_aload_n hx hb dL_law_1032 rfl (lv_at hl 3 rfl) ?_
        refine lv_iload_n hx hb dL_law_1033 rfl (lv_at hl 0 rfl) ?_
        refine lv_iconst (v := 1) hx hb dL_law_1034 (by decide) ?_
        refine lv_pc (q := 1035) rfl ?_
        refine lv_iadd hx hb dL_law_1035 ?_
        refine lv_fixi (y := 1) (by decide) ?_
        refine va_sld (i := 1) hx hb hX hbl hbA hS (by show ¬ (_ ∨ _); decide) dL_law_1036 ?_
        refine lv_fixi (y := (xs 1)) rfl ?_
        refine lv_aload_n hx hb dL_law_1037 rfl (lv_at hl 3 rfl) ?_
        refine lv_iload_n hx hb dL_law_1038 rfl (lv_at hl 0 rfl) ?_
        refine lv_iconst (v := 2) hx hb dL_law_1039 (by decide) ?_
        refine lv_iadd hx hb dL_law_1040 ?_
        refine lv_fixi (y := 2) (by decide) ?_
        refine lv_pc (q := 1041) rfl ?_
        refine va_sld (i := 2) hx hb hX hbl hbA hS (by show ¬ (_ ∨ _); decide) dL_law_1041 ?_
        refine lv_fixi (y := (xs 2)) rfl ?_
        refine lv_if_eq (tgt := 1049) hx hb dL_law_1042 (by decide) (fun _ => ?_) (fun h9 => absurd c312 h9)
        refine lv_iconst (v := 0) hx hb dL_law_1049 (by decide) ?_
        refine uVi (As := [.int (xs 1), .int 0]) (rest := [.int 0]) (wr := []) [(q9, .inr (12, [.int 0, .int 4, .int 4, .ref (u11 0), .ref (u11 1), .ref (u11 2), .ref (u11 3), .int 0, .ref (u11 4), .ref (u11 5), .int 0, .ref (u11 6), .ref (u11 7), .ref (u11 8), .ref (u11 9), .ref (u11 10), .ref (u11 11), .ref (u11 12), .int 0, .ref (u11 13), .ref (u11 14), .ref (u11 15), .ref (u11 16), .ref (u11 17), .ref (u11 18), .int 0, .ref (u11 19), .int 0, .int 0, .int 0, .ref (u11 20), .int 0, .int 0, .ref (u11 21), .int 0, .ref (u11 60), .ref (u11 22), .ref (u11 23), .ref (u11 24), .ref (u11 61), .ref (u11 25), .ref (u11 26), .ref (u11 62), .ref (u11 63), .ref (u11 64), .ref (u11 27), .ref (u11 28), .ref (u11 29), .ref (u11 30), .ref (u11 31), .ref (u11 32), .ref (u11 33), .ref (u11 34), .ref (u11 35), .ref (u11 36), .ref (u11 37), .ref (u11 38), .ref (u11 65), .int 0, .int 0, .int 0, .int 0, .int 0, .long 0, .int 0, .int 0, .int 0, .int 0, .int 0, .int (-1), .int 0, .ref (u11 39), .ref (u11 40), .ref (u11 41), .ref (u11 42), .ref (u11 43), .int 0, .int 0, .ref (u11 44), .ref (u11 45), .ref (u11 46), .ref (u11 47), .ref (u11 48), .ref (u11 49), .ref (u11 50), .ref (u11 51), .int 0, .int 0, .int 0, .int 0, .ref (u11 52), .ref (u11 53), .int 0, .ref (u11 54), .ref (u11 55), .ref (u11 56), .ref (u11 57), .ref (u11 58), .ref (u11 59)]))] B hl.1 hP hD hS [0] [] rfl rfl rfl (kX12_dug_125 l D K _ q9 (u11 0) (u11 1) (u11 2) (u11 3) (u11 4) (u11 5) (u11 6) (u11 7) (u11 8) (u11 9) (u11 10) (u11 11) (u11 12) (u11 13) (u11 14) (u11 15) (u11 16) (u11 17) (u11 18) (u11 19) (u11 20) (u11 21) (u11 60) (u11 22) (u11 23) (u11 24) (u11 61) (u11 25) (u11 26) (u11 62) (u11 63) (u11 64) (u11 27) (u11 28) (u11 29) (u11 30) (u11 31) (u11 32) (u11 33) (u11 34) (u11 35) (u11 36) (u11 37) (u11 38) (u11 65) (u11 39) (u11 40) (u11 41) (u11 42) (u11 43) (u11 44) (u11 45) (u11 46) (u11 47) (u11 48) (u11 49) (u11 50) (u11 51) (u11 52) (u11 53) (u11 54) (u11 55) (u11 56) (u11 57) (u11 58) (u11 59) (xs 1)) wd_X12_dug mml_L_105 rfl rfl rfl rfl ⟨Nat.le_of_ble_eq_true rfl, Nat.le_of_ble_eq_true rfl⟩ (Nat.le_of_ble_eq_true rfl) ⟨Nat.le_of_ble_eq_true rfl, Nat.le_of_ble_eq_true rfl⟩ dL_law_1050 (fun r315 u H locs hw hP hD hS => ?_)
        try dsimp only at hw
        rcases hw with ⟨rfl, w316⟩
        have hP : va_P D vwCl [] H := hP
        have hD : va_D A [] := hD
        refine lv_icmp_eq (tgt := 1474) hx hb dL_law_1053 (by decide) (fun _ => ?_) (fun h9 => absurd (by decide) h9)
        refine lv_iinc (v := 7) (lv' := [(3, .int 7), (2, .ref q9), (1, .ref q1), (0, .ref b)]) hx hb dL_law_1474 hl (k := 0) rfl (by decide) (by decide) rfl (fun ls hl => ?_)
        refine lv_pc (q := 1477) rfl ?_
        refine lv_goto (tgt := 18) hx hb dL_law_1477 (by decide) ?_
        refine lv_iload_n hx hb dL_law_18 rfl (lv_at hl 0 rfl) ?_
        refine lv_aload_n hx hb dL_law_19 rfl (lv_at hl 3 rfl) ?_
        refine va_slen hx hb hX hbl hbA hS dL_law_20 ?_
        refine lv_fixi (y := 7) (by decide) ?_
        refine lv_bipush (v := 7) hx hb dL_law_21 (by decide) ?_
        refine lv_isub hx hb dL_law_23 ?_
        refine lv_fixi (y := 0) (by decide) ?_
        refine lv_pc (q := 24) rfl ?_
        refine lv_icmp_gt (tgt := 1480) hx hb dL_law_24 (by decide) (fun _ => ?_) (fun h9 => absurd (by decide) h9)
        refine lv_iconst (v := 1) hx hb dL_law_1480 (by decide) ?_
        refine va_forget (fun q hq => by have h9 := hS.2.2 q hq; rw [hAe] at h9; exact h9) ?_
        refine W.widen (k := 600000) (n := 7302250) (by decide) (by decide) ?_
        exact lw_ret hx hb hr hlocks dL_law_1481
      refine lv_pc (q := 1023) rfl ?_
      refine lv_iconst (v := 1) hx hb dL_law_1023 (by decide) ?_
      refine lv_goto (tgt := 1028) hx hb dL_law_1024 (by decide) ?_
      refine uVi (As := [.int (xs 1), .int 1]) (rest := []) (wr := [(q9, .inr (12, [.int 0, .int 4, .int 4, .ref (u11 0), .ref (u11 1), .ref (u11 2), .ref (u11 3), .int 0, .ref (u11 4), .ref (u11 5), .int 0, .ref (u11 6), .ref (u11 7), .ref (u11 8), .ref (u11 9), .ref (u11 10), .ref (u11 11), .ref (u11 12), .int 0, .ref (u11 13), .ref (u11 14), .ref (u11 15), .ref (u11 16), .ref (u11 17), .ref (u11 18), .int 0, .ref (u11 19), .int 0, .int 0, .int 0, .ref (u11 20), .int 0, .int 0, .ref (u11 21), .int 0, .ref (u11 60), .ref (u11 22), .ref (u11 23), .ref (u11 24), .ref (u11 61), .ref (u11 25), .ref (u11 26), .ref (u11 62), .ref (u11 63), .ref (u11 64), .ref (u11 27), .ref (u11 28), .ref (u11 29), .ref (u11 30), .ref (u11 31), .ref (u11 32), .ref (u11 33), .ref (u11 34), .ref (u11 35), .ref (u11 36), .ref (u11 37), .ref (u11 38), .ref (u11 65), .int 0, .int 0, .int 0, .int 0, .int 0, .long 0, .int 0, .int 0, .int 0, .int 0, .int 0, .int (-1), .int 0, .ref (u11 39), .ref (u11 40), .ref (u11 41), .ref (u11 42), .ref (u11 43), .int 0, .int 0, .ref (u11 44), .ref (u11 45), .ref (u11 46), .ref (u11 47), .ref (u11 48), .ref (u11 49), .ref (u11 50), .ref (u11 51), .int 0, .int 0, .int 0, .int 0, .ref (u11 52), .ref (u11 53), .int 0, .ref (u11 54), .ref (u11 55), .ref (u11 56), .ref (u11 57), .ref (u11 58), .ref (u11 59)]))]) [(q1, .inr (11, [.ref (u3 0), .ref (u3 7), .ref (u3 16), .ref (u3 17), .ref (u3 24), .ref (u3 27), .ref (u3 30), .ref (u3 33), .ref (u3 62), .ref (u3 77), .ref (u3 50)])), (u3 7, .inr (4, [.ref (u3 0), .ref (u3 8), .ref (u3 9), .ref (u3 10), .ref (u3 11), .ref (u3 12), .ref (u3 13), .ref (u3 14), .ref (u3 15), .int 0]))] B hl.1 hP hD hS [0, 1] [2] rfl rfl rfl (kX11_dug_126 l D K _ q1 (u3 7) (u3 0) (u3 16) (u3 17) (u3 24) (u3 27) (u3 30) (u3 33) (u3 62) (u3 77) (u3 50) (u3 8) (u3 9) (u3 10) (u3 11) (u3 12) (u3 13) (u3 14) (u3 15) (xs 1)) wd_X11_dug mml_L_101 rfl rfl rfl rfl ⟨Nat.le_of_ble_eq_true rfl, Nat.le_of_ble_eq_true rfl⟩ (Nat.le_of_ble_eq_true rfl) ⟨Nat.le_of_ble_eq_true rfl, Nat.le_of_ble_eq_true rfl⟩ dL_law_1028 (fun r317 u H locs hw hP hD hS => ?_)
      try dsimp only at hw
      rcases hw with ⟨rfl, w318⟩
      have hP : va_P D vwCl [(q9, .inr (12, [.int 0, .int 4, .int 4, .ref (u11 0), .ref (u11 1), .ref (u11 2), .ref (u11 3), .int 0, .ref (u11 4), .ref (u11 5), .int 0, .ref (u11 6), .ref (u11 7), .ref (u11 8), .ref (u11 9), .ref (u11 10), .ref (u11 11), .ref (u11 12), .int 0, .ref (u11 13), .ref (u11 14), .ref (u11 15), .ref (u11 16), .ref (u11 17), .ref (u11 18), .int 0, .ref (u11 19), .int 0, .int 0, .int 0, .ref (u11 20), .int 0, .int 0, .ref (u11 21), .int 0, .ref (u11 60), .ref (u11 22), .ref (u11 23), .ref (u11 24), .ref (u11 61), .ref (u11 25), .ref (u11 26), .ref (u11 62), .ref (u11 63), .ref (u11 64), .ref (u11 27), .ref (u11 28), .ref (u11 29), .ref (u11 30), .ref (u11 31), .ref (u11 32), .ref (u11 33), .ref (u11 34), .ref (u11 35), .ref (u11 36), .ref (u11 37), .ref (u11 38), .ref (u11 65), .int 0, .int 0, .int 0, .int 0, .int 0, .long 0, .int 0, .int 0, .int 0, .int 0, .int 0, .int (-1), .int 0, .ref (u11 39), .ref (u11 40), .ref (u11 41), .ref (u11 42), .ref (u11 43), .int 0, .int 0, .ref (u11 44), .ref (u11 45), .ref (u11 46), .ref (u11 47), .ref (u11 48), .ref (u11 49), .ref (u11 50), .ref (u11 51), .int 0, .int 0, .int 0, .int 0, .ref (u11 52), .ref (u11 53), .int 0, .ref (u11 54), .ref (u11 55), .ref (u11 56), .ref (u11 57), .ref (u11 58), .ref (u11 59)]))] H := hP
      have hD : va_D A [(q9, .inr (12, [.int 0, .int 4, .int 4, .ref (u11 0), .ref (u11 1), .ref (u11 2), .ref (u11 3), .int 0, .ref (u11 4), .ref (u11 5), .int 0, .ref (u11 6), .ref (u11 7), .ref (u11 8), .ref (u11 9), .ref (u11 10), .ref (u11 11), .ref (u11 12), .int 0, .ref (u11 13), .ref (u11 14), .ref (u11 15), .ref (u11 16), .ref (u11 17), .ref (u11 18), .int 0, .ref (u11 19), .int 0, .int 0, .int 0, .ref (u11 20), .int 0, .int 0, .ref (u11 21), .int 0, .ref (u11 60), .ref (u11 22), .ref (u11 23), .ref (u11 24), .ref (u11 61), .ref (u11 25), .ref (u11 26), .ref (u11 62), .ref (u11 63), .ref (u11 64), .ref (u11 27), .ref (u11 28), .ref (u11 29), .ref (u11 30), .ref (u11 31), .ref (u11 32), .ref (u11 33), .ref (u11 34), .ref (u11 35), .ref (u11 36), .ref (u11 37), .ref (u11 38), .ref (u11 65), .int 0, .int 0, .int 0, .int 0, .int 0, .long 0, .int 0, .int 0, .int 0, .int 0, .int 0, .int (-1), .int 0, .ref (u11 39), .ref (u11 40), .ref (u11 41), .ref (u11 42), .ref (u11 43), .int 0, .int 0, .ref (u11 44), .ref (u11 45), .ref (u11 46), .ref (u11 47), .ref (u11 48), .ref (u11 49), .ref (u11 50), .ref (u11 51), .int 0, .int 0, .int 0, .int 0, .ref (u11 52), .ref (u11 53), .int 0, .ref (u11 54), .ref (u11 55), .ref (u11 56), .ref (u11 57), .ref (u11 58), .ref (u11 59)]))] := hD
      refine lv_aload_n hx hb dL_law_1031 rfl (lv_at hl 1 rfl) ?_
      refine lv_aload_n hx hb dL_law_1032 rfl (lv_at hl 3 rfl) ?_
      refine lv_iload_n hx hb dL_law_1033 rfl (lv_at hl 0 rfl) ?_
      refine lv_pc (q := 1034) rfl ?_
      refine lv_iconst (v := 1) hx hb dL_law_1034 (by decide) ?_
      refine lv_iadd hx hb dL_law_1035 ?_
      refine lv_fixi (y := 1) (by decide) ?_
      refine va_sld (i := 1) hx hb hX hbl hbA hS (by show ¬ (_ ∨ _); decide) dL_law_1036 ?_
      refine lv_fixi (y := (xs 1)) rfl ?_
      refine lv_aload_n hx hb dL_law_1037 rfl (lv_at hl 3 rfl) ?_
      refine lv_iload_n hx hb dL_law_1038 rfl (lv_at hl 0 rfl) ?_
      refine lv_iconst (v := 2) hx hb dL_law_1039 (by decide) ?_
      refine lv_pc (q := 1040) rfl ?_
      refine lv_iadd hx hb dL_law_1040 ?_
      refine lv_fixi (y := 2) (by decide) ?_
      refine va_sld (i := 2) hx hb hX hbl hbA hS (by show ¬ (_ ∨ _); decide) dL_law_1041 ?_
      refine lv_fixi (y := (xs 2)) rfl ?_
      refine lv_if_eq (tgt := 1049) hx hb dL_law_1042 (by decide) (fun h9 => absurd h9 c312) (fun _ => ?_)
      refine lv_iconst (v := 1) hx hb dL_law_1045 (by decide) ?_
      refine lv_goto (tgt := 1050) hx hb dL_law_1046 (by decide) ?_
      refine uVi (As := [.int (xs 1), .int 1]) (rest := [.int 0]) (wr := []) [(q9, .inr (12, [.int 0, .int 4, .int 4, .ref (u11 0), .ref (u11 1), .ref (u11 2), .ref (u11 3), .int 0, .ref (u11 4), .ref (u11 5), .int 0, .ref (u11 6), .ref (u11 7), .ref (u11 8), .ref (u11 9), .ref (u11 10), .ref (u11 11), .ref (u11 12), .int 0, .ref (u11 13), .ref (u11 14), .ref (u11 15), .ref (u11 16), .ref (u11 17), .ref (u11 18), .int 0, .ref (u11 19), .int 0, .int 0, .int 0, .ref (u11 20), .int 0, .int 0, .ref (u11 21), .int 0, .ref (u11 60), .ref (u11 22), .ref (u11 23), .ref (u11 24), .ref (u11 61), .ref (u11 25), .ref (u11 26), .ref (u11 62), .ref (u11 63), .ref (u11 64), .ref (u11 27), .ref (u11 28), .ref (u11 29), .ref (u11 30), .ref (u11 31), .ref (u11 32), .ref (u11 33), .ref (u11 34), .ref (u11 35), .ref (u11 36), .ref (u11 37), .ref (u11 38), .ref (u11 65), .int 0, .int 0, .int 0, .int 0, .int 0, .long 0, .int 0, .int 0, .int 0, .int 0, .int 0, .int (-1), .int 0, .ref (u11 39), .ref (u11 40), .ref (u11 41), .ref (u11 42), .ref (u11 43), .int 0, .int 0, .ref (u11 44), .ref (u11 45), .ref (u11 46), .ref (u11 47), .ref (u11 48), .ref (u11 49), .ref (u11 50), .ref (u11 51), .int 0, .int 0, .int 0, .int 0, .ref (u11 52), .ref (u11 53), .int 0, .ref (u11 54), .ref (u11 55), .ref (u11 56), .ref (u11 57), .ref (u11 58), .ref (u11 59)]))] B hl.1 hP hD hS [0] [] rfl rfl rfl (kX12_dug_127 l D K _ q9 (u11 0) (u11 1) (u11 2) (u11 3) (u11 4) (u11 5) (u11 6) (u11 7) (u11 8) (u11 9) (u11 10) (u11 11) (u11 12) (u11 13) (u11 14) (u11 15) (u11 16) (u11 17) (u11 18) (u11 19) (u11 20) (u11 21) (u11 60) (u11 22) (u11 23) (u11 24) (u11 61) (u11 25) (u11 26) (u11 62) (u11 63) (u11 64) (u11 27) (u11 28) (u11 29) (u11 30) (u11 31) (u11 32) (u11 33) (u11 34) (u11 35) (u11 36) (u11 37) (u11 38) (u11 65) (u11 39) (u11 40) (u11 41) (u11 42) (u11 43) (u11 44) (u11 45) (u11 46) (u11 47) (u11 48) (u11 49) (u11 50) (u11 51) (u11 52) (u11 53) (u11 54) (u11 55) (u11 56) (u11 57) (u11 58) (u11 59) (xs 1)) wd_X12_dug mml_L_105 rfl rfl rfl rfl ⟨Nat.le_of_ble_eq_true rfl, Nat.le_of_ble_eq_true rfl⟩ (Nat.le_of_ble_eq_true rfl) ⟨Nat.le_of_ble_eq_true rfl, Nat.le_of_ble_eq_true rfl⟩ dL_law_1050 (fun r319 u H locs hw hP hD hS => ?_)
      try dsimp only at hw
      rcases hw with ⟨rfl, w320⟩
      have hP : va_P D vwCl [] H := hP
      have hD : va_D A [] := hD
      refine lv_pc (q := 1053) rfl ?_
      refine lv_icmp_eq (tgt := 1474) hx hb dL_law_1053 (by decide) (fun _ => ?_) (fun h9 => absurd (by decide) h9)
      refine lv_iinc (v := 7) (lv' := [(3, .int 7), (2, .ref q9), (1, .ref q1), (0, .ref b)]) hx hb dL_law_1474 hl (k := 0) rfl (by decide) (by decide) rfl (fun ls hl => ?_)
      refine lv_goto (tgt := 18) hx hb dL_law_1477 (by decide) ?_
      refine lv_iload_n hx hb dL_law_18 rfl (lv_at hl 0 rfl) ?_
      refine lv_aload_n hx hb dL_law_19 rfl (lv_at hl 3 rfl) ?_
      refine va_slen hx hb hX hbl hbA hS dL_law_20 ?_
      refine lv_fixi (y := 7) (by decide) ?_
      refine lv_pc (q := 21) rfl ?_
      refine lv_bipush (v := 7) hx hb dL_law_21 (by decide) ?_
      refine lv_isub hx hb dL_law_23 ?_
      refine lv_fixi (y := 0) (by decide) ?_
      refine lv_icmp_gt (tgt := 1480) hx hb dL_law_24 (by decide) (fun _ => ?_) (fun h9 => absurd (by decide) h9)
      refine lv_iconst (v := 1) hx hb dL_law_1480 (by decide) ?_
      refine va_forget (fun q hq => by have h9 := hS.2.2 q hq; rw [hAe] at h9; exact h9) ?_
      refine W.widen (k := 600000) (n := 7302250) (by decide) (by decide) ?_
      exact lw_ret hx hb hr hlocks dL_law_1481
    · refine lv_fixi (y := 20) ejj ?_
      refine lv_tableIn (off := 1025) (tgt := 1058) hx hb dL_law_33 (by decide) (by decide) rfl (by decide) ?_
      replace hP := uSub (wc := [(q1, .inr (11, [.ref (u3 0), .ref (u3 7), .ref (u3 16), .ref (u3 17), .ref (u3 24), .ref (u3 27), .ref (u3 30), .ref (u3 33), .ref (u3 62), .ref (u3 77), .ref (u3 50)])), (u3 30, .inr (10, [.ref (u3 31), .ref (u3 32), .int 0, .int 0, .int 0, .int 0, .int 0, .int 0, .long 0, .int (-1)])), (u3 31, .inl (K 0, 1000, .inl (fun _ => 0))), (q9, .inr (12, [.int 0, .int 4, .int 4, .ref (u11 0), .ref (u11 1), .ref (u11 2), .ref (u11 3), .int 0, .ref (u11 4), .ref (u11 5), .int 0, .ref (u11 6), .ref (u11 7), .ref (u11 8), .ref (u11 9), .ref (u11 10), .ref (u11 11), .ref (u11 12), .int 0, .ref (u11 13), .ref (u11 14), .ref (u11 15), .ref (u11 16), .ref (u11 17), .ref (u11 18), .int 0, .ref (u11 19), .int 0, .int 0, .int 0, .ref (u11 20), .int 0, .int 0, .ref (u11 21), .int 0, .ref (u11 60), .ref (u11 22), .ref (u11 23), .ref (u11 24), .ref (u11 61), .ref (u11 25), .ref (u11 26), .ref (u11 62), .ref (u11 63), .ref (u11 64), .ref (u11 27), .ref (u11 28), .ref (u11 29), .ref (u11 30), .ref (u11 31), .ref (u11 32), .ref (u11 33), .ref (u11 34), .ref (u11 35), .ref (u11 36), .ref (u11 37), .ref (u11 38), .ref (u11 65), .int 0, .int 0, .int 0, .int 0, .int 0, .long 0, .int 0, .int 0, .int 0, .int 0, .int 0, .int (-1), .int 0, .ref (u11 39), .ref (u11 40), .ref (u11 41), .ref (u11 42), .ref (u11 43), .int 0, .int 0, .ref (u11 44), .ref (u11 45), .ref (u11 46), .ref (u11 47), .ref (u11 48), .ref (u11 49), .ref (u11 50), .ref (u11 51), .int 0, .int 0, .int 0, .int 0, .ref (u11 52), .ref (u11 53), .int 0, .ref (u11 54), .ref (u11 55), .ref (u11 56), .ref (u11 57), .ref (u11 58), .ref (u11 59)])), (u11 21, .inl (K 0, 1000, .inl (fun _ => 0)))]) hP [0, 31, 32, 97, 119] rfl
      replace hD := hD.sub (ws' := [(q1, .inr (11, [.ref (u3 0), .ref (u3 7), .ref (u3 16), .ref (u3 17), .ref (u3 24), .ref (u3 27), .ref (u3 30), .ref (u3 33), .ref (u3 62), .ref (u3 77), .ref (u3 50)])), (u3 30, .inr (10, [.ref (u3 31), .ref (u3 32), .int 0, .int 0, .int 0, .int 0, .int 0, .int 0, .long 0, .int (-1)])), (u3 31, .inl (K 0, 1000, .inl (fun _ => 0))), (q9, .inr (12, [.int 0, .int 4, .int 4, .ref (u11 0), .ref (u11 1), .ref (u11 2), .ref (u11 3), .int 0, .ref (u11 4), .ref (u11 5), .int 0, .ref (u11 6), .ref (u11 7), .ref (u11 8), .ref (u11 9), .ref (u11 10), .ref (u11 11), .ref (u11 12), .int 0, .ref (u11 13), .ref (u11 14), .ref (u11 15), .ref (u11 16), .ref (u11 17), .ref (u11 18), .int 0, .ref (u11 19), .int 0, .int 0, .int 0, .ref (u11 20), .int 0, .int 0, .ref (u11 21), .int 0, .ref (u11 60), .ref (u11 22), .ref (u11 23), .ref (u11 24), .ref (u11 61), .ref (u11 25), .ref (u11 26), .ref (u11 62), .ref (u11 63), .ref (u11 64), .ref (u11 27), .ref (u11 28), .ref (u11 29), .ref (u11 30), .ref (u11 31), .ref (u11 32), .ref (u11 33), .ref (u11 34), .ref (u11 35), .ref (u11 36), .ref (u11 37), .ref (u11 38), .ref (u11 65), .int 0, .int 0, .int 0, .int 0, .int 0, .long 0, .int 0, .int 0, .int 0, .int 0, .int 0, .int (-1), .int 0, .ref (u11 39), .ref (u11 40), .ref (u11 41), .ref (u11 42), .ref (u11 43), .int 0, .int 0, .ref (u11 44), .ref (u11 45), .ref (u11 46), .ref (u11 47), .ref (u11 48), .ref (u11 49), .ref (u11 50), .ref (u11 51), .int 0, .int 0, .int 0, .int 0, .ref (u11 52), .ref (u11 53), .int 0, .ref (u11 54), .ref (u11 55), .ref (u11 56), .ref (u11 57), .ref (u11 58), .ref (u11 59)])), (u11 21, .inl (K 0, 1000, .inl (fun _ => 0)))]) [0, 31, 32, 97, 119] rfl rfl
      refine lv_pc (q := 1058) rfl ?_
      refine lv_aload_n hx hb dL_law_1058 rfl (lv_at hl 2 rfl) ?_
      refine lv_aload_n hx hb dL_law_1059 rfl (lv_at hl 3 rfl) ?_
      refine lv_iload_n hx hb dL_law_1060 rfl (lv_at hl 0 rfl) ?_
      refine lv_iconst (v := 1) hx hb dL_law_1061 (by decide) ?_
      refine lv_iadd hx hb dL_law_1062 ?_
      refine lv_fixi (y := 1) (by decide) ?_
      refine va_sld (i := 1) hx hb hX hbl hbA hS (by show ¬ (_ ∨ _); decide) dL_law_1063 ?_
      refine lv_fixi (y := (xs 1)) rfl ?_
      refine lv_pc (q := 1064) rfl ?_
      refine lv_aload_n hx hb dL_law_1064 rfl (lv_at hl 3 rfl) ?_
      refine lv_iload_n hx hb dL_law_1065 rfl (lv_at hl 0 rfl) ?_
      refine lv_iconst (v := 2) hx hb dL_law_1066 (by decide) ?_
      refine lv_iadd hx hb dL_law_1067 ?_
      refine lv_fixi (y := 2) (by decide) ?_
      refine va_sld (i := 2) hx hb hX hbl hbA hS (by show ¬ (_ ∨ _); decide) dL_law_1068 ?_
      refine lv_fixi (y := (xs 2)) rfl ?_
      refine lv_aload_n hx hb dL_law_1069 rfl (lv_at hl 3 rfl) ?_
      refine lv_pc (q := 1070) rfl ?_
      refine lv_iload_n hx hb dL_law_1070 rfl (lv_at hl 0 rfl) ?_
      refine lv_iconst (v := 3) hx hb dL_law_1071 (by decide) ?_
      refine lv_iadd hx hb dL_law_1072 ?_
      refine lv_fixi (y := 3) (by decide) ?_
      refine va_sld (i := 3) hx hb hX hbl hbA hS (by show ¬ (_ ∨ _); decide) dL_law_1073 ?_
      refine lv_fixi (y := (xs 3)) rfl ?_
      refine lv_aload_n hx hb dL_law_1074 rfl (lv_at hl 3 rfl) ?_
      refine lv_iload_n hx hb dL_law_1075 rfl (lv_at hl 0 rfl) ?_
      refine lv_pc (q := 1076) rfl ?_
      refine lv_iconst (v := 4) hx hb dL_law_1076 (by decide) ?_
      refine lv_iadd hx hb dL_law_1077 ?_
      refine lv_fixi (y := 4) (by decide) ?_
      refine va_sld (i := 4) hx hb hX hbl hbA hS (by show ¬ (_ ∨ _); decide) dL_law_1078 ?_
      refine lv_fixi (y := (xs 4)) rfl ?_
      refine lv_aload_n hx hb dL_law_1079 rfl (lv_at hl 3 rfl) ?_
      refine lv_iload_n hx hb dL_law_1080 rfl (lv_at hl 0 rfl) ?_
      refine lv_iconst (v := 5) hx hb dL_law_1081 (by decide) ?_
      refine lv_pc (q := 1082) rfl ?_
      refine lv_iadd hx hb dL_law_1082 ?_
      refine lv_fixi (y := 5) (by decide) ?_
      refine va_sld (i := 5) hx hb hX hbl hbA hS (by show ¬ (_ ∨ _); decide) dL_law_1083 ?_
      refine lv_fixi (y := (xs 5)) rfl ?_
      refine uVi (As := [.int (xs 1), .int (xs 2), .int (xs 3), .int (xs 4), .int (xs 5)]) (rest := []) (wr := [(q9, .inr (12, [.int 0, .int 4, .int 4, .ref (u11 0), .ref (u11 1), .ref (u11 2), .ref (u11 3), .int 0, .ref (u11 4), .ref (u11 5), .int 0, .ref (u11 6), .ref (u11 7), .ref (u11 8), .ref (u11 9), .ref (u11 10), .ref (u11 11), .ref (u11 12), .int 0, .ref (u11 13), .ref (u11 14), .ref (u11 15), .ref (u11 16), .ref (u11 17), .ref (u11 18), .int 0, .ref (u11 19), .int 0, .int 0, .int 0, .ref (u11 20), .int 0, .int 0, .ref (u11 21), .int 0, .ref (u11 60), .ref (u11 22), .ref (u11 23), .ref (u11 24), .ref (u11 61), .ref (u11 25), .ref (u11 26), .ref (u11 62), .ref (u11 63), .ref (u11 64), .ref (u11 27), .ref (u11 28), .ref (u11 29), .ref (u11 30), .ref (u11 31), .ref (u11 32), .ref (u11 33), .ref (u11 34), .ref (u11 35), .ref (u11 36), .ref (u11 37), .ref (u11 38), .ref (u11 65), .int 0, .int 0, .int 0, .int 0, .int 0, .long 0, .int 0, .int 0, .int 0, .int 0, .int 0, .int (-1), .int 0, .ref (u11 39), .ref (u11 40), .ref (u11 41), .ref (u11 42), .ref (u11 43), .int 0, .int 0, .ref (u11 44), .ref (u11 45), .ref (u11 46), .ref (u11 47), .ref (u11 48), .ref (u11 49), .ref (u11 50), .ref (u11 51), .int 0, .int 0, .int 0, .int 0, .ref (u11 52), .ref (u11 53), .int 0, .ref (u11 54), .ref (u11 55), .ref (u11 56), .ref (u11 57), .ref (u11 58), .ref (u11 59)])), (u11 21, .inl (K 0, 1000, .inl (fun _ => 0)))]) [(q1, .inr (11, [.ref (u3 0), .ref (u3 7), .ref (u3 16), .ref (u3 17), .ref (u3 24), .ref (u3 27), .ref (u3 30), .ref (u3 33), .ref (u3 62), .ref (u3 77), .ref (u3 50)])), (u3 30, .inr (10, [.ref (u3 31), .ref (u3 32), .int 0, .int 0, .int 0, .int 0, .int 0, .int 0, .long 0, .int (-1)])), (u3 31, .inl (K 0, 1000, .inl (fun _ => 0)))] B hl.1 hP hD hS [0, 1, 2] [3, 4] rfl rfl rfl (kX11_feed_134 l D K _ q1 (u3 30) (u3 31) (u3 0) (u3 7) (u3 16) (u3 17) (u3 24) (u3 27) (u3 33) (u3 62) (u3 77) (u3 50) (u3 32) (fun _ => 0) (xs 1) (xs 2) (xs 3) (xs 4) (xs 5)) wd_X11_feed mml_L_106 rfl rfl rfl rfl ⟨Nat.le_of_ble_eq_true rfl, Nat.le_of_ble_eq_true rfl⟩ (Nat.le_of_ble_eq_true rfl) ⟨Nat.le_of_ble_eq_true rfl, Nat.le_of_ble_eq_true rfl⟩ dL_law_1084 (fun r321 u H locs hw hP hD hS => ?_)
      try dsimp only at hw
      rcases hw with rfl
      have hP : va_P D vwCl [(q9, .inr (12, [.int 0, .int 4, .int 4, .ref (u11 0), .ref (u11 1), .ref (u11 2), .ref (u11 3), .int 0, .ref (u11 4), .ref (u11 5), .int 0, .ref (u11 6), .ref (u11 7), .ref (u11 8), .ref (u11 9), .ref (u11 10), .ref (u11 11), .ref (u11 12), .int 0, .ref (u11 13), .ref (u11 14), .ref (u11 15), .ref (u11 16), .ref (u11 17), .ref (u11 18), .int 0, .ref (u11 19), .int 0, .int 0, .int 0, .ref (u11 20), .int 0, .int 0, .ref (u11 21), .int 0, .ref (u11 60), .ref (u11 22), .ref (u11 23), .ref (u11 24), .ref (u11 61), .ref (u11 25), .ref (u11 26), .ref (u11 62), .ref (u11 63), .ref (u11 64), .ref (u11 27), .ref (u11 28), .ref (u11 29), .ref (u11 30), .ref (u11 31), .ref (u11 32), .ref (u11 33), .ref (u11 34), .ref (u11 35), .ref (u11 36), .ref (u11 37), .ref (u11 38), .ref (u11 65), .int 0, .int 0, .int 0, .int 0, .int 0, .long 0, .int 0, .int 0, .int 0, .int 0, .int 0, .int (-1), .int 0, .ref (u11 39), .ref (u11 40), .ref (u11 41), .ref (u11 42), .ref (u11 43), .int 0, .int 0, .ref (u11 44), .ref (u11 45), .ref (u11 46), .ref (u11 47), .ref (u11 48), .ref (u11 49), .ref (u11 50), .ref (u11 51), .int 0, .int 0, .int 0, .int 0, .ref (u11 52), .ref (u11 53), .int 0, .ref (u11 54), .ref (u11 55), .ref (u11 56), .ref (u11 57), .ref (u11 58), .ref (u11 59)])), (u11 21, .inl (K 0, 1000, .inl (fun _ => 0)))] H := hP
      have hD : va_D A [(q9, .inr (12, [.int 0, .int 4, .int 4, .ref (u11 0), .ref (u11 1), .ref (u11 2), .ref (u11 3), .int 0, .ref (u11 4), .ref (u11 5), .int 0, .ref (u11 6), .ref (u11 7), .ref (u11 8), .ref (u11 9), .ref (u11 10), .ref (u11 11), .ref (u11 12), .int 0, .ref (u11 13), .ref (u11 14), .ref (u11 15), .ref (u11 16), .ref (u11 17), .ref (u11 18), .int 0, .ref (u11 19), .int 0, .int 0, .int 0, .ref (u11 20), .int 0, .int 0, .ref (u11 21), .int 0, .ref (u11 60), .ref (u11 22), .ref (u11 23), .ref (u11 24), .ref (u11 61), .ref (u11 25), .ref (u11 26), .ref (u11 62), .ref (u11 63), .ref (u11 64), .ref (u11 27), .ref (u11 28), .ref (u11 29), .ref (u11 30), .ref (u11 31), .ref (u11 32), .ref (u11 33), .ref (u11 34), .ref (u11 35), .ref (u11 36), .ref (u11 37), .ref (u11 38), .ref (u11 65), .int 0, .int 0, .int 0, .int 0, .int 0, .long 0, .int 0, .int 0, .int 0, .int 0, .int 0, .int (-1), .int 0, .ref (u11 39), .ref (u11 40), .ref (u11 41), .ref (u11 42), .ref (u11 43), .int 0, .int 0, .ref (u11 44), .ref (u11 45), .ref (u11 46), .ref (u11 47), .ref (u11 48), .ref (u11 49), .ref (u11 50), .ref (u11 51), .int 0, .int 0, .int 0, .int 0, .ref (u11 52), .ref (u11 53), .int 0, .ref (u11 54), .ref (u11 55), .ref (u11 56), .ref (u11 57), .ref (u11 58), .ref (u11 59)])), (u11 21, .inl (K 0, 1000, .inl (fun _ => 0)))] := hD
      refine lv_aload_n hx hb dL_law_1087 rfl (lv_at hl 1 rfl) ?_
      refine lv_aload_n hx hb dL_law_1088 rfl (lv_at hl 3 rfl) ?_
      refine lv_iload_n hx hb dL_law_1089 rfl (lv_at hl 0 rfl) ?_
      refine lv_pc (q := 1090) rfl ?_
      refine lv_iconst (v := 1) hx hb dL_law_1090 (by decide) ?_
      refine lv_iadd hx hb dL_law_1091 ?_
      refine lv_fixi (y := 1) (by decide) ?_
      refine va_sld (i := 1) hx hb hX hbl hbA hS (by show ¬ (_ ∨ _); decide) dL_law_1092 ?_
      refine lv_fixi (y := (xs 1)) rfl ?_
      refine lv_aload_n hx hb dL_law_1093 rfl (lv_at hl 3 rfl) ?_
      refine lv_iload_n hx hb dL_law_1094 rfl (lv_at hl 0 rfl) ?_
      refine lv_iconst (v := 2) hx hb dL_law_1095 (by decide) ?_
      refine lv_pc (q := 1096) rfl ?_
      refine lv_iadd hx hb dL_law_1096 ?_
      refine lv_fixi (y := 2) (by decide) ?_
      refine va_sld (i := 2) hx hb hX hbl hbA hS (by show ¬ (_ ∨ _); decide) dL_law_1097 ?_
      refine lv_fixi (y := (xs 2)) rfl ?_
      refine lv_aload_n hx hb dL_law_1098 rfl (lv_at hl 3 rfl) ?_
      refine lv_iload_n hx hb dL_law_1099 rfl (lv_at hl 0 rfl) ?_
      refine lv_iconst (v := 3) hx hb dL_law_1100 (by decide) ?_
      refine lv_iadd hx hb dL_law_1101 ?_
      refine lv_fixi (y := 3) (by decide) ?_
      refine lv_pc (q := 1102) rfl ?_
      refine va_sld (i := 3) hx hb hX hbl hbA hS (by show ¬ (_ ∨ _); decide) dL_law_1102 ?_
      refine lv_fixi (y := (xs 3)) rfl ?_
      refine lv_aload_n hx hb dL_law_1103 rfl (lv_at hl 3 rfl) ?_
      refine lv_iload_n hx hb dL_law_1104 rfl (lv_at hl 0 rfl) ?_
      refine lv_iconst (v := 4) hx hb dL_law_1105 (by decide) ?_
      refine lv_iadd hx hb dL_law_1106 ?_
      refine lv_fixi (y := 4) (by decide) ?_
      refine va_sld (i := 4) hx hb hX hbl hbA hS (by show ¬ (_ ∨ _); decide) dL_law_1107 ?_
      refine lv_fixi (y := (xs 4)) rfl ?_
      refine lv_pc (q := 1108) rfl ?_
      refine lv_aload_n hx hb dL_law_1108 rfl (lv_at hl 3 rfl) ?_
      refine lv_iload_n hx hb dL_law_1109 rfl (lv_at hl 0 rfl) ?_
      refine lv_iconst (v := 5) hx hb dL_law_1110 (by decide) ?_
      refine lv_iadd hx hb dL_law_1111 ?_
      refine lv_fixi (y := 5) (by decide) ?_
      refine va_sld (i := 5) hx hb hX hbl hbA hS (by show ¬ (_ ∨ _); decide) dL_law_1112 ?_
      refine lv_fixi (y := (xs 5)) rfl ?_
      refine uVi (As := [.int (xs 1), .int (xs 2), .int (xs 3), .int (xs 4), .int (xs 5)]) (rest := [.int 20]) (wr := []) [(q9, .inr (12, [.int 0, .int 4, .int 4, .ref (u11 0), .ref (u11 1), .ref (u11 2), .ref (u11 3), .int 0, .ref (u11 4), .ref (u11 5), .int 0, .ref (u11 6), .ref (u11 7), .ref (u11 8), .ref (u11 9), .ref (u11 10), .ref (u11 11), .ref (u11 12), .int 0, .ref (u11 13), .ref (u11 14), .ref (u11 15), .ref (u11 16), .ref (u11 17), .ref (u11 18), .int 0, .ref (u11 19), .int 0, .int 0, .int 0, .ref (u11 20), .int 0, .int 0, .ref (u11 21), .int 0, .ref (u11 60), .ref (u11 22), .ref (u11 23), .ref (u11 24), .ref (u11 61), .ref (u11 25), .ref (u11 26), .ref (u11 62), .ref (u11 63), .ref (u11 64), .ref (u11 27), .ref (u11 28), .ref (u11 29), .ref (u11 30), .ref (u11 31), .ref (u11 32), .ref (u11 33), .ref (u11 34), .ref (u11 35), .ref (u11 36), .ref (u11 37), .ref (u11 38), .ref (u11 65), .int 0, .int 0, .int 0, .int 0, .int 0, .long 0, .int 0, .int 0, .int 0, .int 0, .int 0, .int (-1), .int 0, .ref (u11 39), .ref (u11 40), .ref (u11 41), .ref (u11 42), .ref (u11 43), .int 0, .int 0, .ref (u11 44), .ref (u11 45), .ref (u11 46), .ref (u11 47), .ref (u11 48), .ref (u11 49), .ref (u11 50), .ref (u11 51), .int 0, .int 0, .int 0, .int 0, .ref (u11 52), .ref (u11 53), .int 0, .ref (u11 54), .ref (u11 55), .ref (u11 56), .ref (u11 57), .ref (u11 58), .ref (u11 59)])), (u11 21, .inl (K 0, 1000, .inl (fun _ => 0)))] B hl.1 hP hD hS [0, 1] [] rfl rfl rfl (kX12_feed_135 l D K _ q9 (u11 21) (u11 0) (u11 1) (u11 2) (u11 3) (u11 4) (u11 5) (u11 6) (u11 7) (u11 8) (u11 9) (u11 10) (u11 11) (u11 12) (u11 13) (u11 14) (u11 15) (u11 16) (u11 17) (u11 18) (u11 19) (u11 20) (u11 60) (u11 22) (u11 23) (u11 24) (u11 61) (u11 25) (u11 26) (u11 62) (u11 63) (u11 64) (u11 27) (u11 28) (u11 29) (u11 30) (u11 31) (u11 32) (u11 33) (u11 34) (u11 35) (u11 36) (u11 37) (u11 38) (u11 65) (u11 39) (u11 40) (u11 41) (u11 42) (u11 43) (u11 44) (u11 45) (u11 46) (u11 47) (u11 48) (u11 49) (u11 50) (u11 51) (u11 52) (u11 53) (u11 54) (u11 55) (u11 56) (u11 57) (u11 58) (u11 59) (fun _ => 0) (xs 1) (xs 2) (xs 3) (xs 4) (xs 5)) wd_X12_feed mml_L_110 rfl rfl rfl rfl ⟨Nat.le_of_ble_eq_true rfl, Nat.le_of_ble_eq_true rfl⟩ (Nat.le_of_ble_eq_true rfl) ⟨Nat.le_of_ble_eq_true rfl, Nat.le_of_ble_eq_true rfl⟩ dL_law_1113 (fun r322 u H locs hw hP hD hS => ?_)
      try dsimp only at hw
      rcases hw with rfl
      have hP : va_P D vwCl [] H := hP
      have hD : va_D A [] := hD
      refine lv_pc (q := 1116) rfl ?_
      refine lv_icmp_eq (tgt := 1474) hx hb dL_law_1116 (by decide) (fun _ => ?_) (fun h9 => absurd (by decide) h9)
      refine lv_iinc (v := 7) (lv' := [(3, .int 7), (2, .ref q9), (1, .ref q1), (0, .ref b)]) hx hb dL_law_1474 hl (k := 0) rfl (by decide) (by decide) rfl (fun ls hl => ?_)
      refine lv_goto (tgt := 18) hx hb dL_law_1477 (by decide) ?_
      refine lv_iload_n hx hb dL_law_18 rfl (lv_at hl 0 rfl) ?_
      refine lv_aload_n hx hb dL_law_19 rfl (lv_at hl 3 rfl) ?_
      refine va_slen hx hb hX hbl hbA hS dL_law_20 ?_
      refine lv_fixi (y := 7) (by decide) ?_
      refine lv_pc (q := 21) rfl ?_
      refine lv_bipush (v := 7) hx hb dL_law_21 (by decide) ?_
      refine lv_isub hx hb dL_law_23 ?_
      refine lv_fixi (y := 0) (by decide) ?_
      refine lv_icmp_gt (tgt := 1480) hx hb dL_law_24 (by decide) (fun _ => ?_) (fun h9 => absurd (by decide) h9)
      refine lv_iconst (v := 1) hx hb dL_law_1480 (by decide) ?_
      refine va_forget (fun q hq => by have h9 := hS.2.2 q hq; rw [hAe] at h9; exact h9) ?_
      refine W.widen (k := 600000) (n := 7302250) (by decide) (by decide) ?_
      exact lw_ret hx hb hr hlocks dL_law_1481
    · refine lv_fixi (y := 21) ejj ?_
      refine lv_tableIn (off := 1088) (tgt := 1121) hx hb dL_law_33 (by decide) (by decide) rfl (by decide) ?_
      replace hP := uSub (wc := [(q1, .inr (11, [.ref (u3 0), .ref (u3 7), .ref (u3 16), .ref (u3 17), .ref (u3 24), .ref (u3 27), .ref (u3 30), .ref (u3 33), .ref (u3 62), .ref (u3 77), .ref (u3 50)])), (u3 30, .inr (10, [.ref (u3 31), .ref (u3 32), .int 0, .int 0, .int 0, .int 0, .int 0, .int 0, .long 0, .int (-1)])), (u3 33, .inr (5, [.ref (u3 30), .ref (u3 34), .ref (u3 35), .ref (u3 36), .ref (u3 37), .ref (u3 38), .int 0, .int 0, .int 0, .int (-1)])), (u3 38, .inr (7, [.ref (u3 39), .ref (u3 40), .ref (u3 41), .ref (u3 42), .ref (u3 43), .ref (u3 44), .ref (u3 45), .ref (u3 46), .ref (u3 47), .ref (u3 48), .ref (u3 49), .int 0, .int 0, .int 0, .int 2, .int 1])), (u3 42, .inl (K 0, 10, .inl (fun _ => 0))), (u3 62, .inr (2, [.ref (u3 24), .ref (u3 50), .int 0, .int 0, .ref (u3 63), .ref (u3 64), .ref (u3 69), .ref (u3 70), .ref (u3 71), .ref (u3 72), .ref (u3 73), .ref (u3 74), .ref (u3 75), .ref (u3 76)])), (q9, .inr (12, [.int 0, .int 4, .int 4, .ref (u11 0), .ref (u11 1), .ref (u11 2), .ref (u11 3), .int 0, .ref (u11 4), .ref (u11 5), .int 0, .ref (u11 6), .ref (u11 7), .ref (u11 8), .ref (u11 9), .ref (u11 10), .ref (u11 11), .ref (u11 12), .int 0, .ref (u11 13), .ref (u11 14), .ref (u11 15), .ref (u11 16), .ref (u11 17), .ref (u11 18), .int 0, .ref (u11 19), .int 0, .int 0, .int 0, .ref (u11 20), .int 0, .int 0, .ref (u11 21), .int 0, .ref (u11 60), .ref (u11 22), .ref (u11 23), .ref (u11 24), .ref (u11 61), .ref (u11 25), .ref (u11 26), .ref (u11 62), .ref (u11 63), .ref (u11 64), .ref (u11 27), .ref (u11 28), .ref (u11 29), .ref (u11 30), .ref (u11 31), .ref (u11 32), .ref (u11 33), .ref (u11 34), .ref (u11 35), .ref (u11 36), .ref (u11 37), .ref (u11 38), .ref (u11 65), .int 0, .int 0, .int 0, .int 0, .int 0, .long 0, .int 0, .int 0, .int 0, .int 0, .int 0, .int (-1), .int 0, .ref (u11 39), .ref (u11 40), .ref (u11 41), .ref (u11 42), .ref (u11 43), .int 0, .int 0, .ref (u11 44), .ref (u11 45), .ref (u11 46), .ref (u11 47), .ref (u11 48), .ref (u11 49), .ref (u11 50), .ref (u11 51), .int 0, .int 0, .int 0, .int 0, .ref (u11 52), .ref (u11 53), .int 0, .ref (u11 54), .ref (u11 55), .ref (u11 56), .ref (u11 57), .ref (u11 58), .ref (u11 59)])), (u11 23, .inl (K 0, 20, .inl (fun _ => 0))), (u11 24, .inl (K 0, 100, .inl (fun _ => 0))), (u11 27, .inl (K 0, 32, .inl (fun _ => 0))), (u11 30, .inl (K 0, 32, .inl (fun _ => 0))), (u11 31, .inl (K 1, 32, .inl (fun _ => 0))), (u11 32, .inl (K 0, 32, .inl (fun _ => 0))), (u11 33, .inl (K 0, 128, .inl (fun _ => 0))), (u11 36, .inl (K 0, 128, .inl (fun _ => 0))), (u11 37, .inl (K 0, 128, .inl (fun _ => 0))), (u11 38, .inl (K 0, 128, .inl (fun _ => 0))), (u11 60, .inl (K 0, 2, .inl u14)), (u11 61, .inl (K 0, 2, .inl u15)), (u11 62, .inl (K 0, 2, .inl u16)), (u11 63, .inl (K 0, 2, .inl u17)), (u11 64, .inl (K 0, 2, .inl u18)), (u11 65, .inl (K 0, 10, .inl u19))]) hP [0, 31, 34, 39, 43, 63, 97, 121, 122, 125, 128, 129, 130, 131, 134, 135, 136, 158, 159, 160, 161, 162, 163] rfl
      replace hD := hD.sub (ws' := [(q1, .inr (11, [.ref (u3 0), .ref (u3 7), .ref (u3 16), .ref (u3 17), .ref (u3 24), .ref (u3 27), .ref (u3 30), .ref (u3 33), .ref (u3 62), .ref (u3 77), .ref (u3 50)])), (u3 30, .inr (10, [.ref (u3 31), .ref (u3 32), .int 0, .int 0, .int 0, .int 0, .int 0, .int 0, .long 0, .int (-1)])), (u3 33, .inr (5, [.ref (u3 30), .ref (u3 34), .ref (u3 35), .ref (u3 36), .ref (u3 37), .ref (u3 38), .int 0, .int 0, .int 0, .int (-1)])), (u3 38, .inr (7, [.ref (u3 39), .ref (u3 40), .ref (u3 41), .ref (u3 42), .ref (u3 43), .ref (u3 44), .ref (u3 45), .ref (u3 46), .ref (u3 47), .ref (u3 48), .ref (u3 49), .int 0, .int 0, .int 0, .int 2, .int 1])), (u3 42, .inl (K 0, 10, .inl (fun _ => 0))), (u3 62, .inr (2, [.ref (u3 24), .ref (u3 50), .int 0, .int 0, .ref (u3 63), .ref (u3 64), .ref (u3 69), .ref (u3 70), .ref (u3 71), .ref (u3 72), .ref (u3 73), .ref (u3 74), .ref (u3 75), .ref (u3 76)])), (q9, .inr (12, [.int 0, .int 4, .int 4, .ref (u11 0), .ref (u11 1), .ref (u11 2), .ref (u11 3), .int 0, .ref (u11 4), .ref (u11 5), .int 0, .ref (u11 6), .ref (u11 7), .ref (u11 8), .ref (u11 9), .ref (u11 10), .ref (u11 11), .ref (u11 12), .int 0, .ref (u11 13), .ref (u11 14), .ref (u11 15), .ref (u11 16), .ref (u11 17), .ref (u11 18), .int 0, .ref (u11 19), .int 0, .int 0, .int 0, .ref (u11 20), .int 0, .int 0, .ref (u11 21), .int 0, .ref (u11 60), .ref (u11 22), .ref (u11 23), .ref (u11 24), .ref (u11 61), .ref (u11 25), .ref (u11 26), .ref (u11 62), .ref (u11 63), .ref (u11 64), .ref (u11 27), .ref (u11 28), .ref (u11 29), .ref (u11 30), .ref (u11 31), .ref (u11 32), .ref (u11 33), .ref (u11 34), .ref (u11 35), .ref (u11 36), .ref (u11 37), .ref (u11 38), .ref (u11 65), .int 0, .int 0, .int 0, .int 0, .int 0, .long 0, .int 0, .int 0, .int 0, .int 0, .int 0, .int (-1), .int 0, .ref (u11 39), .ref (u11 40), .ref (u11 41), .ref (u11 42), .ref (u11 43), .int 0, .int 0, .ref (u11 44), .ref (u11 45), .ref (u11 46), .ref (u11 47), .ref (u11 48), .ref (u11 49), .ref (u11 50), .ref (u11 51), .int 0, .int 0, .int 0, .int 0, .ref (u11 52), .ref (u11 53), .int 0, .ref (u11 54), .ref (u11 55), .ref (u11 56), .ref (u11 57), .ref (u11 58), .ref (u11 59)])), (u11 23, .inl (K 0, 20, .inl (fun _ => 0))), (u11 24, .inl (K 0, 100, .inl (fun _ => 0))), (u11 27, .inl (K 0, 32, .inl (fun _ => 0))), (u11 30, .inl (K 0, 32, .inl (fun _ => 0))), (u11 31, .inl (K 1, 32, .inl (fun _ => 0))), (u11 32, .inl (K 0, 32, .inl (fun _ => 0))), (u11 33, .inl (K 0, 128, .inl (fun _ => 0))), (u11 36, .inl (K 0, 128, .inl (fun _ => 0))), (u11 37, .inl (K 0, 128, .inl (fun _ => 0))), (u11 38, .inl (K 0, 128, .inl (fun _ => 0))), (u11 60, .inl (K 0, 2, .inl u14)), (u11 61, .inl (K 0, 2, .inl u15)), (u11 62, .inl (K 0, 2, .inl u16)), (u11 63, .inl (K 0, 2, .inl u17)), (u11 64, .inl (K 0, 2, .inl u18)), (u11 65, .inl (K 0, 10, .inl u19))]) [0, 31, 34, 39, 43, 63, 97, 121, 122, 125, 128, 129, 130, 131, 134, 135, 136, 158, 159, 160, 161, 162, 163] rfl rfl
      refine lv_pc (q := 1121) rfl ?_
      refine lv_aload_n hx hb dL_law_1121 rfl (lv_at hl 2 rfl) ?_
      refine lv_aload_n hx hb dL_law_1122 rfl (lv_at hl 3 rfl) ?_
      refine lv_iload_n hx hb dL_law_1123 rfl (lv_at hl 0 rfl) ?_
      refine lv_iconst (v := 1) hx hb dL_law_1124 (by decide) ?_
      refine lv_iadd hx hb dL_law_1125 ?_
      refine lv_fixi (y := 1) (by decide) ?_
      refine va_sld (i := 1) hx hb hX hbl hbA hS (by show ¬ (_ ∨ _); decide) dL_law_1126 ?_
      refine lv_fixi (y := (xs 1)) rfl ?_
      refine lv_pc (q := 1127) rfl ?_
      refine uVi (As := [.int (xs 1)]) (rest := []) (wr := [(q9, .inr (12, [.int 0, .int 4, .int 4, .ref (u11 0), .ref (u11 1), .ref (u11 2), .ref (u11 3), .int 0, .ref (u11 4), .ref (u11 5), .int 0, .ref (u11 6), .ref (u11 7), .ref (u11 8), .ref (u11 9), .ref (u11 10), .ref (u11 11), .ref (u11 12), .int 0, .ref (u11 13), .ref (u11 14), .ref (u11 15), .ref (u11 16), .ref (u11 17), .ref (u11 18), .int 0, .ref (u11 19), .int 0, .int 0, .int 0, .ref (u11 20), .int 0, .int 0, .ref (u11 21), .int 0, .ref (u11 60), .ref (u11 22), .ref (u11 23), .ref (u11 24), .ref (u11 61), .ref (u11 25), .ref (u11 26), .ref (u11 62), .ref (u11 63), .ref (u11 64), .ref (u11 27), .ref (u11 28), .ref (u11 29), .ref (u11 30), .ref (u11 31), .ref (u11 32), .ref (u11 33), .ref (u11 34), .ref (u11 35), .ref (u11 36), .ref (u11 37), .ref (u11 38), .ref (u11 65), .int 0, .int 0, .int 0, .int 0, .int 0, .long 0, .int 0, .int 0, .int 0, .int 0, .int 0, .int (-1), .int 0, .ref (u11 39), .ref (u11 40), .ref (u11 41), .ref (u11 42), .ref (u11 43), .int 0, .int 0, .ref (u11 44), .ref (u11 45), .ref (u11 46), .ref (u11 47), .ref (u11 48), .ref (u11 49), .ref (u11 50), .ref (u11 51), .int 0, .int 0, .int 0, .int 0, .ref (u11 52), .ref (u11 53), .int 0, .ref (u11 54), .ref (u11 55), .ref (u11 56), .ref (u11 57), .ref (u11 58), .ref (u11 59)])), (u11 23, .inl (K 0, 20, .inl (fun _ => 0))), (u11 24, .inl (K 0, 100, .inl (fun _ => 0))), (u11 27, .inl (K 0, 32, .inl (fun _ => 0))), (u11 30, .inl (K 0, 32, .inl (fun _ => 0))), (u11 31, .inl (K 1, 32, .inl (fun _ => 0))), (u11 32, .inl (K 0, 32, .inl (fun _ => 0))), (u11 33, .inl (K 0, 128, .inl (fun _ => 0))), (u11 36, .inl (K 0, 128, .inl (fun _ => 0))), (u11 37, .inl (K 0, 128, .inl (fun _ => 0))), (u11 38, .inl (K 0, 128, .inl (fun _ => 0))), (u11 60, .inl (K 0, 2, .inl u14)), (u11 61, .inl (K 0, 2, .inl u15)), (u11 62, .inl (K 0, 2, .inl u16)), (u11 63, .inl (K 0, 2, .inl u17)), (u11 64, .inl (K 0, 2, .inl u18)), (u11 65, .inl (K 0, 10, .inl u19))]) [(q1, .inr (11, [.ref (u3 0), .ref (u3 7), .ref (u3 16), .ref (u3 17), .ref (u3 24), .ref (u3 27), .ref (u3 30), .ref (u3 33), .ref (u3 62), .ref (u3 77), .ref (u3 50)])), (u3 30, .inr (10, [.ref (u3 31), .ref (u3 32), .int 0, .int 0, .int 0, .int 0, .int 0, .int 0, .long 0, .int (-1)])), (u3 33, .inr (5, [.ref (u3 30), .ref (u3 34), .ref (u3 35), .ref (u3 36), .ref (u3 37), .ref (u3 38), .int 0, .int 0, .int 0, .int (-1)])), (u3 38, .inr (7, [.ref (u3 39), .ref (u3 40), .ref (u3 41), .ref (u3 42), .ref (u3 43), .ref (u3 44), .ref (u3 45), .ref (u3 46), .ref (u3 47), .ref (u3 48), .ref (u3 49), .int 0, .int 0, .int 0, .int 2, .int 1])), (u3 42, .inl (K 0, 10, .inl (fun _ => 0))), (u3 62, .inr (2, [.ref (u3 24), .ref (u3 50), .int 0, .int 0, .ref (u3 63), .ref (u3 64), .ref (u3 69), .ref (u3 70), .ref (u3 71), .ref (u3 72), .ref (u3 73), .ref (u3 74), .ref (u3 75), .ref (u3 76)]))] B hl.1 hP hD hS [0, 1, 2, 3, 4, 5] [6, 7, 8, 9, 10, 11, 12, 13, 14, 15, 16, 17, 18, 19, 20, 21, 22] rfl rfl rfl (kX11_rules_143 l D K _ q1 (u3 30) (u3 33) (u3 38) (u3 42) (u3 62) (u3 0) (u3 7) (u3 16) (u3 17) (u3 24) (u3 27) (u3 77) (u3 50) (u3 31) (u3 32) (u3 34) (u3 35) (u3 36) (u3 37) (u3 39) (u3 40) (u3 41) (u3 43) (u3 44) (u3 45) (u3 46) (u3 47) (u3 48) (u3 49) (fun _ => 0) (u3 63) (u3 64) (u3 69) (u3 70) (u3 71) (u3 72) (u3 73) (u3 74) (u3 75) (u3 76) (xs 1)) wd_X11_rules mml_L_111 rfl rfl rfl rfl ⟨Nat.le_of_ble_eq_true rfl, Nat.le_of_ble_eq_true rfl⟩ (Nat.le_of_ble_eq_true rfl) ⟨Nat.le_of_ble_eq_true rfl, Nat.le_of_ble_eq_true rfl⟩ dL_law_1127 (fun r323 u H locs hw hP hD hS => ?_)
      try dsimp only at hw
      rcases hw with ⟨rfl, w324⟩ | ⟨rfl, ⟨w325, w326⟩⟩
      · have hP : va_P D vwCl [(q9, .inr (12, [.int 0, .int 4, .int 4, .ref (u11 0), .ref (u11 1), .ref (u11 2), .ref (u11 3), .int 0, .ref (u11 4), .ref (u11 5), .int 0, .ref (u11 6), .ref (u11 7), .ref (u11 8), .ref (u11 9), .ref (u11 10), .ref (u11 11), .ref (u11 12), .int 0, .ref (u11 13), .ref (u11 14), .ref (u11 15), .ref (u11 16), .ref (u11 17), .ref (u11 18), .int 0, .ref (u11 19), .int 0, .int 0, .int 0, .ref (u11 20), .int 0, .int 0, .ref (u11 21), .int 0, .ref (u11 60), .ref (u11 22), .ref (u11 23), .ref (u11 24), .ref (u11 61), .ref (u11 25), .ref (u11 26), .ref (u11 62), .ref (u11 63), .ref (u11 64), .ref (u11 27), .ref (u11 28), .ref (u11 29), .ref (u11 30), .ref (u11 31), .ref (u11 32), .ref (u11 33), .ref (u11 34), .ref (u11 35), .ref (u11 36), .ref (u11 37), .ref (u11 38), .ref (u11 65), .int 0, .int 0, .int 0, .int 0, .int 0, .long 0, .int 0, .int 0, .int 0, .int 0, .int 0, .int (-1), .int 0, .ref (u11 39), .ref (u11 40), .ref (u11 41), .ref (u11 42), .ref (u11 43), .int 0, .int 0, .ref (u11 44), .ref (u11 45), .ref (u11 46), .ref (u11 47), .ref (u11 48), .ref (u11 49), .ref (u11 50), .ref (u11 51), .int 0, .int 0, .int 0, .int 0, .ref (u11 52), .ref (u11 53), .int 0, .ref (u11 54), .ref (u11 55), .ref (u11 56), .ref (u11 57), .ref (u11 58), .ref (u11 59)])), (u11 23, .inl (K 0, 20, .inl (fun _ => 0))), (u11 24, .inl (K 0, 100, .inl (fun _ => 0))), (u11 27, .inl (K 0, 32, .inl (fun _ => 0))), (u11 30, .inl (K 0, 32, .inl (fun _ => 0))), (u11 31, .inl (K 1, 32, .inl (fun _ => 0))), (u11 32, .inl (K 0, 32, .inl (fun _ => 0))), (u11 33, .inl (K 0, 128, .inl (fun _ => 0))), (u11 36, .inl (K 0, 128, .inl (fun _ => 0))), (u11 37, .inl (K 0, 128, .inl (fun _ => 0))), (u11 38, .inl (K 0, 128, .inl (fun _ => 0))), (u11 60, .inl (K 0, 2, .inl u14)), (u11 61, .inl (K 0, 2, .inl u15)), (u11 62, .inl (K 0, 2, .inl u16)), (u11 63, .inl (K 0, 2, .inl u17)), (u11 64, .inl (K 0, 2, .inl u18)), (u11 65, .inl (K 0, 10, .inl u19))] H := hP
        have hD : va_D A [(q9, .inr (12, [.int 0, .int 4, .int 4, .ref (u11 0), .ref (u11 1), .ref (u11 2), .ref (u11 3), .int 0, .ref (u11 4), .ref (u11 5), .int 0, .ref (u11 6), .ref (u11 7), .ref (u11 8), .ref (u11 9), .ref (u11 10), .ref (u11 11), .ref (u11 12), .int 0, .ref (u11 13), .ref (u11 14), .ref (u11 15), .ref (u11 16), .ref (u11 17), .ref (u11 18), .int 0, .ref (u11 19), .int 0, .int 0, .int 0, .ref (u11 20), .int 0, .int 0, .ref (u11 21), .int 0, .ref (u11 60), .ref (u11 22), .ref (u11 23), .ref (u11 24), .ref (u11 61), .ref (u11 25), .ref (u11 26), .ref (u11 62), .ref (u11 63), .ref (u11 64), .ref (u11 27), .ref (u11 28), .ref (u11 29), .ref (u11 30), .ref (u11 31), .ref (u11 32), .ref (u11 33), .ref (u11 34), .ref (u11 35), .ref (u11 36), .ref (u11 37), .ref (u11 38), .ref (u11 65), .int 0, .int 0, .int 0, .int 0, .int 0, .long 0, .int 0, .int 0, .int 0, .int 0, .int 0, .int (-1), .int 0, .ref (u11 39), .ref (u11 40), .ref (u11 41), .ref (u11 42), .ref (u11 43), .int 0, .int 0, .ref (u11 44), .ref (u11 45), .ref (u11 46), .ref (u11 47), .ref (u11 48), .ref (u11 49), .ref (u11 50), .ref (u11 51), .int 0, .int 0, .int 0, .int 0, .ref (u11 52), .ref (u11 53), .int 0, .ref (u11 54), .ref (u11 55), .ref (u11 56), .ref (u11 57), .ref (u11 58), .ref (u11 59)])), (u11 23, .inl (K 0, 20, .inl (fun _ => 0))), (u11 24, .inl (K 0, 100, .inl (fun _ => 0))), (u11 27, .inl (K 0, 32, .inl (fun _ => 0))), (u11 30, .inl (K 0, 32, .inl (fun _ => 0))), (u11 31, .inl (K 1, 32, .inl (fun _ => 0))), (u11 32, .inl (K 0, 32, .inl (fun _ => 0))), (u11 33, .inl (K 0, 128, .inl (fun _ => 0))), (u11 36, .inl (K 0, 128, .inl (fun _ => 0))), (u11 37, .inl (K 0, 128, .inl (fun _ => 0))), (u11 38, .inl (K 0, 128, .inl (fun _ => 0))), (u11 60, .inl (K 0, 2, .inl u14)), (u11 61, .inl (K 0, 2, .inl u15)), (u11 62, .inl (K 0, 2, .inl u16)), (u11 63, .inl (K 0, 2, .inl u17)), (u11 64, .inl (K 0, 2, .inl u18)), (u11 65, .inl (K 0, 10, .inl u19))] := hD
        refine lv_aload_n hx hb dL_law_1130 rfl (lv_at hl 1 rfl) ?_
        refine lv_aload_n hx hb dL_law_1131 rfl (lv_at hl 3 rfl) ?_
        refine lv_iload_n hx hb dL_law_1132 rfl (lv_at hl 0 rfl) ?_
        refine lv_iconst (v := 1) hx hb dL_law_1133 (by decide) ?_
        refine lv_iadd hx hb dL_law_1134 ?_
        refine lv_fixi (y := 1) (by decide) ?_
        refine lv_pc (q := 1135) rfl ?_
        refine va_sld (i := 1) hx hb hX hbl hbA hS (by show ¬ (_ ∨ _); decide) dL_law_1135 ?_
        refine lv_fixi (y := (xs 1)) rfl ?_
        refine uVi (As := [.int (xs 1)]) (rest := [.int (-2)]) (wr := []) [(q9, .inr (12, [.int 0, .int 4, .int 4, .ref (u11 0), .ref (u11 1), .ref (u11 2), .ref (u11 3), .int 0, .ref (u11 4), .ref (u11 5), .int 0, .ref (u11 6), .ref (u11 7), .ref (u11 8), .ref (u11 9), .ref (u11 10), .ref (u11 11), .ref (u11 12), .int 0, .ref (u11 13), .ref (u11 14), .ref (u11 15), .ref (u11 16), .ref (u11 17), .ref (u11 18), .int 0, .ref (u11 19), .int 0, .int 0, .int 0, .ref (u11 20), .int 0, .int 0, .ref (u11 21), .int 0, .ref (u11 60), .ref (u11 22), .ref (u11 23), .ref (u11 24), .ref (u11 61), .ref (u11 25), .ref (u11 26), .ref (u11 62), .ref (u11 63), .ref (u11 64), .ref (u11 27), .ref (u11 28), .ref (u11 29), .ref (u11 30), .ref (u11 31), .ref (u11 32), .ref (u11 33), .ref (u11 34), .ref (u11 35), .ref (u11 36), .ref (u11 37), .ref (u11 38), .ref (u11 65), .int 0, .int 0, .int 0, .int 0, .int 0, .long 0, .int 0, .int 0, .int 0, .int 0, .int 0, .int (-1), .int 0, .ref (u11 39), .ref (u11 40), .ref (u11 41), .ref (u11 42), .ref (u11 43), .int 0, .int 0, .ref (u11 44), .ref (u11 45), .ref (u11 46), .ref (u11 47), .ref (u11 48), .ref (u11 49), .ref (u11 50), .ref (u11 51), .int 0, .int 0, .int 0, .int 0, .ref (u11 52), .ref (u11 53), .int 0, .ref (u11 54), .ref (u11 55), .ref (u11 56), .ref (u11 57), .ref (u11 58), .ref (u11 59)])), (u11 60, .inl (K 0, 2, .inl u14)), (u11 61, .inl (K 0, 2, .inl u15)), (u11 62, .inl (K 0, 2, .inl u16)), (u11 63, .inl (K 0, 2, .inl u17)), (u11 64, .inl (K 0, 2, .inl u18)), (u11 65, .inl (K 0, 10, .inl u19)), (u11 23, .inl (K 0, 20, .inl (fun _ => 0))), (u11 24, .inl (K 0, 100, .inl (fun _ => 0))), (u11 27, .inl (K 0, 32, .inl (fun _ => 0))), (u11 30, .inl (K 0, 32, .inl (fun _ => 0))), (u11 31, .inl (K 1, 32, .inl (fun _ => 0))), (u11 32, .inl (K 0, 32, .inl (fun _ => 0))), (u11 33, .inl (K 0, 128, .inl (fun _ => 0))), (u11 36, .inl (K 0, 128, .inl (fun _ => 0))), (u11 37, .inl (K 0, 128, .inl (fun _ => 0))), (u11 38, .inl (K 0, 128, .inl (fun _ => 0)))] B hl.1 hP hD hS [0, 11, 12, 13, 14, 15, 16, 1, 2, 3, 4, 5, 6, 7, 8, 9, 10] [] rfl rfl rfl (kX12_rules_149 l D K _ q9 (u11 60) (u11 61) (u11 62) (u11 63) (u11 64) (u11 65) (u11 23) (u11 24) (u11 27) (u11 30) (u11 31) (u11 32) (u11 33) (u11 36) (u11 37) (u11 38) (u11 0) (u11 1) (u11 2) (u11 3) (u11 4) (u11 5) (u11 6) (u11 7) (u11 8) (u11 9) (u11 10) (u11 11) (u11 12) (u11 13) (u11 14) (u11 15) (u11 16) (u11 17) (u11 18) (u11 19) (u11 20) (u11 21) (u11 22) (u11 25) (u11 26) (u11 28) (u11 29) (u11 34) (u11 35) (u11 39) (u11 40) (u11 41) (u11 42) (u11 43) (u11 44) (u11 45) (u11 46) (u11 47) (u11 48) (u11 49) (u11 50) (u11 51) (u11 52) (u11 53) (u11 54) (u11 55) (u11 56) (u11 57) (u11 58) (u11 59) u14 u15 u16 u17 u18 u19 (fun _ => 0) (fun _ => 0) (fun _ => 0) (fun _ => 0) (fun _ => 0) (fun _ => 0) (fun _ => 0) (fun _ => 0) (fun _ => 0) (fun _ => 0) (xs 1) a20 (fun _ => Or.inl rfl)) wd_X12_rules mml_L_114 rfl rfl rfl rfl ⟨Nat.le_of_ble_eq_true rfl, Nat.le_of_ble_eq_true rfl⟩ (Nat.le_of_ble_eq_true rfl) ⟨Nat.le_of_ble_eq_true rfl, Nat.le_of_ble_eq_true rfl⟩ dL_law_1136 (fun r327 u H locs hw hP hD hS => ?_)
        try dsimp only at hw
        rcases hw with ⟨rfl, w328⟩ | ⟨rfl, ⟨w329, w330⟩⟩
        · have hP : va_P D vwCl [] H := hP
          have hD : va_D A [] := hD
          refine lv_icmp_eq (tgt := 1474) hx hb dL_law_1139 (by decide) (fun _ => ?_) (fun h9 => absurd (by decide) h9)
          refine lv_iinc (v := 7) (lv' := [(3, .int 7), (2, .ref q9), (1, .ref q1), (0, .ref b)]) hx hb dL_law_1474 hl (k := 0) rfl (by decide) (by decide) rfl (fun ls hl => ?_)
          refine lv_goto (tgt := 18) hx hb dL_law_1477 (by decide) ?_
          refine lv_iload_n hx hb dL_law_18 rfl (lv_at hl 0 rfl) ?_
          refine lv_pc (q := 19) rfl ?_
          refine lv_aload_n hx hb dL_law_19 rfl (lv_at hl 3 rfl) ?_
          refine va_slen hx hb hX hbl hbA hS dL_law_20 ?_
          refine lv_fixi (y := 7) (by decide) ?_
          refine lv_bipush (v := 7) hx hb dL_law_21 (by decide) ?_
          refine lv_isub hx hb dL_law_23 ?_
          refine lv_fixi (y := 0) (by decide) ?_
          refine lv_icmp_gt (tgt := 1480) hx hb dL_law_24 (by decide) (fun _ => ?_) (fun h9 => absurd (by decide) h9)
          refine lv_iconst (v := 1) hx hb dL_law_1480 (by decide) ?_
          refine lv_pc (q := 1481) rfl ?_
          refine va_forget (fun q hq => by have h9 := hS.2.2 q hq; rw [hAe] at h9; exact h9) ?_
          refine W.widen (k := 600000) (n := 7302250) (by decide) (by decide) ?_
          exact lw_ret hx hb hr hlocks dL_law_1481
        have hP : va_P D vwCl [] H := hP
        have hD : va_D A [] := hD
        exfalso
        try simp only [fa_lt, fa_le, fa_eq, Int32.reduceToInt] at w324 w329 w330
        omega
      have hP : va_P D vwCl [(q9, .inr (12, [.int 0, .int 4, .int 4, .ref (u11 0), .ref (u11 1), .ref (u11 2), .ref (u11 3), .int 0, .ref (u11 4), .ref (u11 5), .int 0, .ref (u11 6), .ref (u11 7), .ref (u11 8), .ref (u11 9), .ref (u11 10), .ref (u11 11), .ref (u11 12), .int 0, .ref (u11 13), .ref (u11 14), .ref (u11 15), .ref (u11 16), .ref (u11 17), .ref (u11 18), .int 0, .ref (u11 19), .int 0, .int 0, .int 0, .ref (u11 20), .int 0, .int 0, .ref (u11 21), .int 0, .ref (u11 60), .ref (u11 22), .ref (u11 23), .ref (u11 24), .ref (u11 61), .ref (u11 25), .ref (u11 26), .ref (u11 62), .ref (u11 63), .ref (u11 64), .ref (u11 27), .ref (u11 28), .ref (u11 29), .ref (u11 30), .ref (u11 31), .ref (u11 32), .ref (u11 33), .ref (u11 34), .ref (u11 35), .ref (u11 36), .ref (u11 37), .ref (u11 38), .ref (u11 65), .int 0, .int 0, .int 0, .int 0, .int 0, .long 0, .int 0, .int 0, .int 0, .int 0, .int 0, .int (-1), .int 0, .ref (u11 39), .ref (u11 40), .ref (u11 41), .ref (u11 42), .ref (u11 43), .int 0, .int 0, .ref (u11 44), .ref (u11 45), .ref (u11 46), .ref (u11 47), .ref (u11 48), .ref (u11 49), .ref (u11 50), .ref (u11 51), .int 0, .int 0, .int 0, .int 0, .ref (u11 52), .ref (u11 53), .int 0, .ref (u11 54), .ref (u11 55), .ref (u11 56), .ref (u11 57), .ref (u11 58), .ref (u11 59)])), (u11 23, .inl (K 0, 20, .inl (fun _ => 0))), (u11 24, .inl (K 0, 100, .inl (fun _ => 0))), (u11 27, .inl (K 0, 32, .inl (fun _ => 0))), (u11 30, .inl (K 0, 32, .inl (fun _ => 0))), (u11 31, .inl (K 1, 32, .inl (fun _ => 0))), (u11 32, .inl (K 0, 32, .inl (fun _ => 0))), (u11 33, .inl (K 0, 128, .inl (fun _ => 0))), (u11 36, .inl (K 0, 128, .inl (fun _ => 0))), (u11 37, .inl (K 0, 128, .inl (fun _ => 0))), (u11 38, .inl (K 0, 128, .inl (fun _ => 0))), (u11 60, .inl (K 0, 2, .inl u14)), (u11 61, .inl (K 0, 2, .inl u15)), (u11 62, .inl (K 0, 2, .inl u16)), (u11 63, .inl (K 0, 2, .inl u17)), (u11 64, .inl (K 0, 2, .inl u18)), (u11 65, .inl (K 0, 10, .inl u19))] H := hP
      have hD : va_D A [(q9, .inr (12, [.int 0, .int 4, .int 4, .ref (u11 0), .ref (u11 1), .ref (u11 2), .ref (u11 3), .int 0, .ref (u11 4), .ref (u11 5), .int 0, .ref (u11 6), .ref (u11 7), .ref (u11 8), .ref (u11 9), .ref (u11 10), .ref (u11 11), .ref (u11 12), .int 0, .ref (u11 13), .ref (u11 14), .ref (u11 15), .ref (u11 16), .ref (u11 17), .ref (u11 18), .int 0, .ref (u11 19), .int 0, .int 0, .int 0, .ref (u11 20), .int 0, .int 0, .ref (u11 21), .int 0, .ref (u11 60), .ref (u11 22), .ref (u11 23), .ref (u11 24), .ref (u11 61), .ref (u11 25), .ref (u11 26), .ref (u11 62), .ref (u11 63), .ref (u11 64), .ref (u11 27), .ref (u11 28), .ref (u11 29), .ref (u11 30), .ref (u11 31), .ref (u11 32), .ref (u11 33), .ref (u11 34), .ref (u11 35), .ref (u11 36), .ref (u11 37), .ref (u11 38), .ref (u11 65), .int 0, .int 0, .int 0, .int 0, .int 0, .long 0, .int 0, .int 0, .int 0, .int 0, .int 0, .int (-1), .int 0, .ref (u11 39), .ref (u11 40), .ref (u11 41), .ref (u11 42), .ref (u11 43), .int 0, .int 0, .ref (u11 44), .ref (u11 45), .ref (u11 46), .ref (u11 47), .ref (u11 48), .ref (u11 49), .ref (u11 50), .ref (u11 51), .int 0, .int 0, .int 0, .int 0, .ref (u11 52), .ref (u11 53), .int 0, .ref (u11 54), .ref (u11 55), .ref (u11 56), .ref (u11 57), .ref (u11 58), .ref (u11 59)])), (u11 23, .inl (K 0, 20, .inl (fun _ => 0))), (u11 24, .inl (K 0, 100, .inl (fun _ => 0))), (u11 27, .inl (K 0, 32, .inl (fun _ => 0))), (u11 30, .inl (K 0, 32, .inl (fun _ => 0))), (u11 31, .inl (K 1, 32, .inl (fun _ => 0))), (u11 32, .inl (K 0, 32, .inl (fun _ => 0))), (u11 33, .inl (K 0, 128, .inl (fun _ => 0))), (u11 36, .inl (K 0, 128, .inl (fun _ => 0))), (u11 37, .inl (K 0, 128, .inl (fun _ => 0))), (u11 38, .inl (K 0, 128, .inl (fun _ => 0))), (u11 60, .inl (K 0, 2, .inl u14)), (u11 61, .inl (K 0, 2, .inl u15)), (u11 62, .inl (K 0, 2, .inl u16)), (u11 63, .inl (K 0, 2, .inl u17)), (u11 64, .inl (K 0, 2, .inl u18)), (u11 65, .inl (K 0, 10, .inl u19))] := hD
      refine lv_aload_n hx hb dL_law_1130 rfl (lv_at hl 1 rfl) ?_
      refine lv_aload_n hx hb dL_law_1131 rfl (lv_at hl 3 rfl) ?_
      refine lv_iload_n hx hb dL_law_1132 rfl (lv_at hl 0 rfl) ?_
      refine lv_iconst (v := 1) hx hb dL_law_1133 (by decide) ?_
      refine lv_iadd hx hb dL_law_1134 ?_
      refine lv_fixi (y := 1) (by decide) ?_
      refine lv_pc (q := 1135) rfl ?_
      refine va_sld (i := 1) hx hb hX hbl hbA hS (by show ¬ (_ ∨ _); decide) dL_law_1135 ?_
      refine lv_fixi (y := (xs 1)) rfl ?_
      refine uVi (As := [.int (xs 1)]) (rest := [.int 0]) (wr := []) [(q9, .inr (12, [.int 0, .int 4, .int 4, .ref (u11 0), .ref (u11 1), .ref (u11 2), .ref (u11 3), .int 0, .ref (u11 4), .ref (u11 5), .int 0, .ref (u11 6), .ref (u11 7), .ref (u11 8), .ref (u11 9), .ref (u11 10), .ref (u11 11), .ref (u11 12), .int 0, .ref (u11 13), .ref (u11 14), .ref (u11 15), .ref (u11 16), .ref (u11 17), .ref (u11 18), .int 0, .ref (u11 19), .int 0, .int 0, .int 0, .ref (u11 20), .int 0, .int 0, .ref (u11 21), .int 0, .ref (u11 60), .ref (u11 22), .ref (u11 23), .ref (u11 24), .ref (u11 61), .ref (u11 25), .ref (u11 26), .ref (u11 62), .ref (u11 63), .ref (u11 64), .ref (u11 27), .ref (u11 28), .ref (u11 29), .ref (u11 30), .ref (u11 31), .ref (u11 32), .ref (u11 33), .ref (u11 34), .ref (u11 35), .ref (u11 36), .ref (u11 37), .ref (u11 38), .ref (u11 65), .int 0, .int 0, .int 0, .int 0, .int 0, .long 0, .int 0, .int 0, .int 0, .int 0, .int 0, .int (-1), .int 0, .ref (u11 39), .ref (u11 40), .ref (u11 41), .ref (u11 42), .ref (u11 43), .int 0, .int 0, .ref (u11 44), .ref (u11 45), .ref (u11 46), .ref (u11 47), .ref (u11 48), .ref (u11 49), .ref (u11 50), .ref (u11 51), .int 0, .int 0, .int 0, .int 0, .ref (u11 52), .ref (u11 53), .int 0, .ref (u11 54), .ref (u11 55), .ref (u11 56), .ref (u11 57), .ref (u11 58), .ref (u11 59)])), (u11 60, .inl (K 0, 2, .inl u14)), (u11 61, .inl (K 0, 2, .inl u15)), (u11 62, .inl (K 0, 2, .inl u16)), (u11 63, .inl (K 0, 2, .inl u17)), (u11 64, .inl (K 0, 2, .inl u18)), (u11 65, .inl (K 0, 10, .inl u19)), (u11 23, .inl (K 0, 20, .inl (fun _ => 0))), (u11 24, .inl (K 0, 100, .inl (fun _ => 0))), (u11 27, .inl (K 0, 32, .inl (fun _ => 0))), (u11 30, .inl (K 0, 32, .inl (fun _ => 0))), (u11 31, .inl (K 1, 32, .inl (fun _ => 0))), (u11 32, .inl (K 0, 32, .inl (fun _ => 0))), (u11 33, .inl (K 0, 128, .inl (fun _ => 0))), (u11 36, .inl (K 0, 128, .inl (fun _ => 0))), (u11 37, .inl (K 0, 128, .inl (fun _ => 0))), (u11 38, .inl (K 0, 128, .inl (fun _ => 0)))] B hl.1 hP hD hS [0, 11, 12, 13, 14, 15, 16, 1, 2, 3, 4, 5, 6, 7, 8, 9, 10] [] rfl rfl rfl (kX12_rules_149 l D K _ q9 (u11 60) (u11 61) (u11 62) (u11 63) (u11 64) (u11 65) (u11 23) (u11 24) (u11 27) (u11 30) (u11 31) (u11 32) (u11 33) (u11 36) (u11 37) (u11 38) (u11 0) (u11 1) (u11 2) (u11 3) (u11 4) (u11 5) (u11 6) (u11 7) (u11 8) (u11 9) (u11 10) (u11 11) (u11 12) (u11 13) (u11 14) (u11 15) (u11 16) (u11 17) (u11 18) (u11 19) (u11 20) (u11 21) (u11 22) (u11 25) (u11 26) (u11 28) (u11 29) (u11 34) (u11 35) (u11 39) (u11 40) (u11 41) (u11 42) (u11 43) (u11 44) (u11 45) (u11 46) (u11 47) (u11 48) (u11 49) (u11 50) (u11 51) (u11 52) (u11 53) (u11 54) (u11 55) (u11 56) (u11 57) (u11 58) (u11 59) u14 u15 u16 u17 u18 u19 (fun _ => 0) (fun _ => 0) (fun _ => 0) (fun _ => 0) (fun _ => 0) (fun _ => 0) (fun _ => 0) (fun _ => 0) (fun _ => 0) (fun _ => 0) (xs 1) a20 (fun _ => Or.inl rfl)) wd_X12_rules mml_L_114 rfl rfl rfl rfl ⟨Nat.le_of_ble_eq_true rfl, Nat.le_of_ble_eq_true rfl⟩ (Nat.le_of_ble_eq_true rfl) ⟨Nat.le_of_ble_eq_true rfl, Nat.le_of_ble_eq_true rfl⟩ dL_law_1136 (fun r331 u H locs hw hP hD hS => ?_)
      try dsimp only at hw
      rcases hw with ⟨rfl, w332⟩ | ⟨rfl, ⟨w333, w334⟩⟩
      · have hP : va_P D vwCl [] H := hP
        have hD : va_D A [] := hD
        exfalso
        try simp only [fa_lt, fa_le, fa_eq, Int32.reduceToInt] at w325 w326 w332
        omega
      have hP : va_P D vwCl [] H := hP
      have hD : va_D A [] := hD
      refine lv_icmp_eq (tgt := 1474) hx hb dL_law_1139 (by decide) (fun _ => ?_) (fun h9 => absurd (by decide) h9)
      refine lv_iinc (v := 7) (lv' := [(3, .int 7), (2, .ref q9), (1, .ref q1), (0, .ref b)]) hx hb dL_law_1474 hl (k := 0) rfl (by decide) (by decide) rfl (fun ls hl => ?_)
      refine lv_goto (tgt := 18) hx hb dL_law_1477 (by decide) ?_
      refine lv_iload_n hx hb dL_law_18 rfl (lv_at hl 0 rfl) ?_
      refine lv_pc (q := 19) rfl ?_
      refine lv_aload_n hx hb dL_law_19 rfl (lv_at hl 3 rfl) ?_
      refine va_slen hx hb hX hbl hbA hS dL_law_20 ?_
      refine lv_fixi (y := 7) (by decide) ?_
      refine lv_bipush (v := 7) hx hb dL_law_21 (by decide) ?_
      refine lv_isub hx hb dL_law_23 ?_
      refine lv_fixi (y := 0) (by decide) ?_
      refine lv_icmp_gt (tgt := 1480) hx hb dL_law_24 (by decide) (fun _ => ?_) (fun h9 => absurd (by decide) h9)
      refine lv_iconst (v := 1) hx hb dL_law_1480 (by decide) ?_
      refine lv_pc (q := 1481) rfl ?_
      refine va_forget (fun q hq => by have h9 := hS.2.2 q hq; rw [hAe] at h9; exact h9) ?_
      refine W.widen (k := 600000) (n := 7302250) (by decide) (by decide) ?_
      exact lw_ret hx hb hr hlocks dL_law_1481
    · refine lv_fixi (y := 22) ejj ?_
      refine lv_tableIn (off := 1111) (tgt := 1144) hx hb dL_law_33 (by decide) (by decide) rfl (by decide) ?_
      replace hP := uSub (wc := [(q1, .inr (11, [.ref (u3 0), .ref (u3 7), .ref (u3 16), .ref (u3 17), .ref (u3 24), .ref (u3 27), .ref (u3 30), .ref (u3 33), .ref (u3 62), .ref (u3 77), .ref (u3 50)])), (u3 33, .inr (5, [.ref (u3 30), .ref (u3 34), .ref (u3 35), .ref (u3 36), .ref (u3 37), .ref (u3 38), .int 0, .int 0, .int 0, .int (-1)])), (q9, .inr (12, [.int 0, .int 4, .int 4, .ref (u11 0), .ref (u11 1), .ref (u11 2), .ref (u11 3), .int 0, .ref (u11 4), .ref (u11 5), .int 0, .ref (u11 6), .ref (u11 7), .ref (u11 8), .ref (u11 9), .ref (u11 10), .ref (u11 11), .ref (u11 12), .int 0, .ref (u11 13), .ref (u11 14), .ref (u11 15), .ref (u11 16), .ref (u11 17), .ref (u11 18), .int 0, .ref (u11 19), .int 0, .int 0, .int 0, .ref (u11 20), .int 0, .int 0, .ref (u11 21), .int 0, .ref (u11 60), .ref (u11 22), .ref (u11 23), .ref (u11 24), .ref (u11 61), .ref (u11 25), .ref (u11 26), .ref (u11 62), .ref (u11 63), .ref (u11 64), .ref (u11 27), .ref (u11 28), .ref (u11 29), .ref (u11 30), .ref (u11 31), .ref (u11 32), .ref (u11 33), .ref (u11 34), .ref (u11 35), .ref (u11 36), .ref (u11 37), .ref (u11 38), .ref (u11 65), .int 0, .int 0, .int 0, .int 0, .int 0, .long 0, .int 0, .int 0, .int 0, .int 0, .int 0, .int (-1), .int 0, .ref (u11 39), .ref (u11 40), .ref (u11 41), .ref (u11 42), .ref (u11 43), .int 0, .int 0, .ref (u11 44), .ref (u11 45), .ref (u11 46), .ref (u11 47), .ref (u11 48), .ref (u11 49), .ref (u11 50), .ref (u11 51), .int 0, .int 0, .int 0, .int 0, .ref (u11 52), .ref (u11 53), .int 0, .ref (u11 54), .ref (u11 55), .ref (u11 56), .ref (u11 57), .ref (u11 58), .ref (u11 59)]))]) hP [0, 34, 97] rfl
      replace hD := hD.sub (ws' := [(q1, .inr (11, [.ref (u3 0), .ref (u3 7), .ref (u3 16), .ref (u3 17), .ref (u3 24), .ref (u3 27), .ref (u3 30), .ref (u3 33), .ref (u3 62), .ref (u3 77), .ref (u3 50)])), (u3 33, .inr (5, [.ref (u3 30), .ref (u3 34), .ref (u3 35), .ref (u3 36), .ref (u3 37), .ref (u3 38), .int 0, .int 0, .int 0, .int (-1)])), (q9, .inr (12, [.int 0, .int 4, .int 4, .ref (u11 0), .ref (u11 1), .ref (u11 2), .ref (u11 3), .int 0, .ref (u11 4), .ref (u11 5), .int 0, .ref (u11 6), .ref (u11 7), .ref (u11 8), .ref (u11 9), .ref (u11 10), .ref (u11 11), .ref (u11 12), .int 0, .ref (u11 13), .ref (u11 14), .ref (u11 15), .ref (u11 16), .ref (u11 17), .ref (u11 18), .int 0, .ref (u11 19), .int 0, .int 0, .int 0, .ref (u11 20), .int 0, .int 0, .ref (u11 21), .int 0, .ref (u11 60), .ref (u11 22), .ref (u11 23), .ref (u11 24), .ref (u11 61), .ref (u11 25), .ref (u11 26), .ref (u11 62), .ref (u11 63), .ref (u11 64), .ref (u11 27), .ref (u11 28), .ref (u11 29), .ref (u11 30), .ref (u11 31), .ref (u11 32), .ref (u11 33), .ref (u11 34), .ref (u11 35), .ref (u11 36), .ref (u11 37), .ref (u11 38), .ref (u11 65), .int 0, .int 0, .int 0, .int 0, .int 0, .long 0, .int 0, .int 0, .int 0, .int 0, .int 0, .int (-1), .int 0, .ref (u11 39), .ref (u11 40), .ref (u11 41), .ref (u11 42), .ref (u11 43), .int 0, .int 0, .ref (u11 44), .ref (u11 45), .ref (u11 46), .ref (u11 47), .ref (u11 48), .ref (u11 49), .ref (u11 50), .ref (u11 51), .int 0, .int 0, .int 0, .int 0, .ref (u11 52), .ref (u11 53), .int 0, .ref (u11 54), .ref (u11 55), .ref (u11 56), .ref (u11 57), .ref (u11 58), .ref (u11 59)]))]) [0, 34, 97] rfl rfl
      refine lv_pc (q := 1144) rfl ?_
      refine lv_aload_n hx hb dL_law_1144 rfl (lv_at hl 2 rfl) ?_
      refine lv_aload_n hx hb dL_law_1145 rfl (lv_at hl 3 rfl) ?_
      refine lv_iload_n hx hb dL_law_1146 rfl (lv_at hl 0 rfl) ?_
      refine lv_iconst (v := 1) hx hb dL_law_1147 (by decide) ?_
      refine lv_iadd hx hb dL_law_1148 ?_
      refine lv_fixi (y := 1) (by decide) ?_
      refine va_sld (i := 1) hx hb hX hbl hbA hS (by show ¬ (_ ∨ _); decide) dL_law_1149 ?_
      refine lv_fixi (y := (xs 1)) rfl ?_
      refine lv_pc (q := 1150) rfl ?_
      refine uVi (As := [.int (xs 1)]) (rest := []) (wr := [(q9, .inr (12, [.int 0, .int 4, .int 4, .ref (u11 0), .ref (u11 1), .ref (u11 2), .ref (u11 3), .int 0, .ref (u11 4), .ref (u11 5), .int 0, .ref (u11 6), .ref (u11 7), .ref (u11 8), .ref (u11 9), .ref (u11 10), .ref (u11 11), .ref (u11 12), .int 0, .ref (u11 13), .ref (u11 14), .ref (u11 15), .ref (u11 16), .ref (u11 17), .ref (u11 18), .int 0, .ref (u11 19), .int 0, .int 0, .int 0, .ref (u11 20), .int 0, .int 0, .ref (u11 21), .int 0, .ref (u11 60), .ref (u11 22), .ref (u11 23), .ref (u11 24), .ref (u11 61), .ref (u11 25), .ref (u11 26), .ref (u11 62), .ref (u11 63), .ref (u11 64), .ref (u11 27), .ref (u11 28), .ref (u11 29), .ref (u11 30), .ref (u11 31), .ref (u11 32), .ref (u11 33), .ref (u11 34), .ref (u11 35), .ref (u11 36), .ref (u11 37), .ref (u11 38), .ref (u11 65), .int 0, .int 0, .int 0, .int 0, .int 0, .long 0, .int 0, .int 0, .int 0, .int 0, .int 0, .int (-1), .int 0, .ref (u11 39), .ref (u11 40), .ref (u11 41), .ref (u11 42), .ref (u11 43), .int 0, .int 0, .ref (u11 44), .ref (u11 45), .ref (u11 46), .ref (u11 47), .ref (u11 48), .ref (u11 49), .ref (u11 50), .ref (u11 51), .int 0, .int 0, .int 0, .int 0, .ref (u11 52), .ref (u11 53), .int 0, .ref (u11 54), .ref (u11 55), .ref (u11 56), .ref (u11 57), .ref (u11 58), .ref (u11 59)]))]) [(q1, .inr (11, [.ref (u3 0), .ref (u3 7), .ref (u3 16), .ref (u3 17), .ref (u3 24), .ref (u3 27), .ref (u3 30), .ref (u3 33), .ref (u3 62), .ref (u3 77), .ref (u3 50)])), (u3 33, .inr (5, [.ref (u3 30), .ref (u3 34), .ref (u3 35), .ref (u3 36), .ref (u3 37), .ref (u3 38), .int 0, .int 0, .int 0, .int (-1)]))] B hl.1 hP hD hS [0, 1] [2] rfl rfl rfl (kX11_fault_150 l D K _ q1 (u3 33) (u3 0) (u3 7) (u3 16) (u3 17) (u3 24) (u3 27) (u3 30) (u3 62) (u3 77) (u3 50) (u3 34) (u3 35) (u3 36) (u3 37) (u3 38) (xs 1)) wd_X11_fault mml_L_115 rfl rfl rfl rfl ⟨Nat.le_of_ble_eq_true rfl, Nat.le_of_ble_eq_true rfl⟩ (Nat.le_of_ble_eq_true rfl) ⟨Nat.le_of_ble_eq_true rfl, Nat.le_of_ble_eq_true rfl⟩ dL_law_1150 (fun r335 u H locs hw hP hD hS => ?_)
      try dsimp only at hw
      rcases hw with ⟨rfl, w336⟩ | ⟨rfl, w337⟩
      · have hP : va_P D vwCl [(q9, .inr (12, [.int 0, .int 4, .int 4, .ref (u11 0), .ref (u11 1), .ref (u11 2), .ref (u11 3), .int 0, .ref (u11 4), .ref (u11 5), .int 0, .ref (u11 6), .ref (u11 7), .ref (u11 8), .ref (u11 9), .ref (u11 10), .ref (u11 11), .ref (u11 12), .int 0, .ref (u11 13), .ref (u11 14), .ref (u11 15), .ref (u11 16), .ref (u11 17), .ref (u11 18), .int 0, .ref (u11 19), .int 0, .int 0, .int 0, .ref (u11 20), .int 0, .int 0, .ref (u11 21), .int 0, .ref (u11 60), .ref (u11 22), .ref (u11 23), .ref (u11 24), .ref (u11 61), .ref (u11 25), .ref (u11 26), .ref (u11 62), .ref (u11 63), .ref (u11 64), .ref (u11 27), .ref (u11 28), .ref (u11 29), .ref (u11 30), .ref (u11 31), .ref (u11 32), .ref (u11 33), .ref (u11 34), .ref (u11 35), .ref (u11 36), .ref (u11 37), .ref (u11 38), .ref (u11 65), .int 0, .int 0, .int 0, .int 0, .int 0, .long 0, .int 0, .int 0, .int 0, .int 0, .int 0, .int (-1), .int 0, .ref (u11 39), .ref (u11 40), .ref (u11 41), .ref (u11 42), .ref (u11 43), .int 0, .int 0, .ref (u11 44), .ref (u11 45), .ref (u11 46), .ref (u11 47), .ref (u11 48), .ref (u11 49), .ref (u11 50), .ref (u11 51), .int 0, .int 0, .int 0, .int 0, .ref (u11 52), .ref (u11 53), .int 0, .ref (u11 54), .ref (u11 55), .ref (u11 56), .ref (u11 57), .ref (u11 58), .ref (u11 59)]))] H := hP
        have hD : va_D A [(q9, .inr (12, [.int 0, .int 4, .int 4, .ref (u11 0), .ref (u11 1), .ref (u11 2), .ref (u11 3), .int 0, .ref (u11 4), .ref (u11 5), .int 0, .ref (u11 6), .ref (u11 7), .ref (u11 8), .ref (u11 9), .ref (u11 10), .ref (u11 11), .ref (u11 12), .int 0, .ref (u11 13), .ref (u11 14), .ref (u11 15), .ref (u11 16), .ref (u11 17), .ref (u11 18), .int 0, .ref (u11 19), .int 0, .int 0, .int 0, .ref (u11 20), .int 0, .int 0, .ref (u11 21), .int 0, .ref (u11 60), .ref (u11 22), .ref (u11 23), .ref (u11 24), .ref (u11 61), .ref (u11 25), .ref (u11 26), .ref (u11 62), .ref (u11 63), .ref (u11 64), .ref (u11 27), .ref (u11 28), .ref (u11 29), .ref (u11 30), .ref (u11 31), .ref (u11 32), .ref (u11 33), .ref (u11 34), .ref (u11 35), .ref (u11 36), .ref (u11 37), .ref (u11 38), .ref (u11 65), .int 0, .int 0, .int 0, .int 0, .int 0, .long 0, .int 0, .int 0, .int 0, .int 0, .int 0, .int (-1), .int 0, .ref (u11 39), .ref (u11 40), .ref (u11 41), .ref (u11 42), .ref (u11 43), .int 0, .int 0, .ref (u11 44), .ref (u11 45), .ref (u11 46), .ref (u11 47), .ref (u11 48), .ref (u11 49), .ref (u11 50), .ref (u11 51), .int 0, .int 0, .int 0, .int 0, .ref (u11 52), .ref (u11 53), .int 0, .ref (u11 54), .ref (u11 55), .ref (u11 56), .ref (u11 57), .ref (u11 58), .ref (u11 59)]))] := hD
        refine lv_aload_n hx hb dL_law_1153 rfl (lv_at hl 1 rfl) ?_
        refine lv_aload_n hx hb dL_law_1154 rfl (lv_at hl 3 rfl) ?_
        refine lv_iload_n hx hb dL_law_1155 rfl (lv_at hl 0 rfl) ?_
        refine lv_iconst (v := 1) hx hb dL_law_1156 (by decide) ?_
        refine lv_iadd hx hb dL_law_1157 ?_
        refine lv_fixi (y := 1) (by decide) ?_
        refine lv_pc (q := 1158) rfl ?_
        refine va_sld (i := 1) hx hb hX hbl hbA hS (by show ¬ (_ ∨ _); decide) dL_law_1158 ?_
        refine lv_fixi (y := (xs 1)) rfl ?_
        refine uVi (As := [.int (xs 1)]) (rest := [.int 0]) (wr := []) [(q9, .inr (12, [.int 0, .int 4, .int 4, .ref (u11 0), .ref (u11 1), .ref (u11 2), .ref (u11 3), .int 0, .ref (u11 4), .ref (u11 5), .int 0, .ref (u11 6), .ref (u11 7), .ref (u11 8), .ref (u11 9), .ref (u11 10), .ref (u11 11), .ref (u11 12), .int 0, .ref (u11 13), .ref (u11 14), .ref (u11 15), .ref (u11 16), .ref (u11 17), .ref (u11 18), .int 0, .ref (u11 19), .int 0, .int 0, .int 0, .ref (u11 20), .int 0, .int 0, .ref (u11 21), .int 0, .ref (u11 60), .ref (u11 22), .ref (u11 23), .ref (u11 24), .ref (u11 61), .ref (u11 25), .ref (u11 26), .ref (u11 62), .ref (u11 63), .ref (u11 64), .ref (u11 27), .ref (u11 28), .ref (u11 29), .ref (u11 30), .ref (u11 31), .ref (u11 32), .ref (u11 33), .ref (u11 34), .ref (u11 35), .ref (u11 36), .ref (u11 37), .ref (u11 38), .ref (u11 65), .int 0, .int 0, .int 0, .int 0, .int 0, .long 0, .int 0, .int 0, .int 0, .int 0, .int 0, .int (-1), .int 0, .ref (u11 39), .ref (u11 40), .ref (u11 41), .ref (u11 42), .ref (u11 43), .int 0, .int 0, .ref (u11 44), .ref (u11 45), .ref (u11 46), .ref (u11 47), .ref (u11 48), .ref (u11 49), .ref (u11 50), .ref (u11 51), .int 0, .int 0, .int 0, .int 0, .ref (u11 52), .ref (u11 53), .int 0, .ref (u11 54), .ref (u11 55), .ref (u11 56), .ref (u11 57), .ref (u11 58), .ref (u11 59)]))] B hl.1 hP hD hS [0] [] rfl rfl rfl (kX12_fault_151 l D K _ q9 (u11 0) (u11 1) (u11 2) (u11 3) (u11 4) (u11 5) (u11 6) (u11 7) (u11 8) (u11 9) (u11 10) (u11 11) (u11 12) (u11 13) (u11 14) (u11 15) (u11 16) (u11 17) (u11 18) (u11 19) (u11 20) (u11 21) (u11 60) (u11 22) (u11 23) (u11 24) (u11 61) (u11 25) (u11 26) (u11 62) (u11 63) (u11 64) (u11 27) (u11 28) (u11 29) (u11 30) (u11 31) (u11 32) (u11 33) (u11 34) (u11 35) (u11 36) (u11 37) (u11 38) (u11 65) (u11 39) (u11 40) (u11 41) (u11 42) (u11 43) (u11 44) (u11 45) (u11 46) (u11 47) (u11 48) (u11 49) (u11 50) (u11 51) (u11 52) (u11 53) (u11 54) (u11 55) (u11 56) (u11 57) (u11 58) (u11 59) (xs 1)) wd_X12_fault mml_L_118 rfl rfl rfl rfl ⟨Nat.le_of_ble_eq_true rfl, Nat.le_of_ble_eq_true rfl⟩ (Nat.le_of_ble_eq_true rfl) ⟨Nat.le_of_ble_eq_true rfl, Nat.le_of_ble_eq_true rfl⟩ dL_law_1159 (fun r338 u H locs hw hP hD hS => ?_)
        try dsimp only at hw
        rcases hw with ⟨rfl, w339⟩ | ⟨rfl, w340⟩
        · have hP : va_P D vwCl [] H := hP
          have hD : va_D A [] := hD
          exfalso
          try simp only [fa_lt, fa_le, fa_eq, Int32.reduceToInt] at w336 w339
          omega
        have hP : va_P D vwCl [] H := hP
        have hD : va_D A [] := hD
        refine lv_icmp_eq (tgt := 1474) hx hb dL_law_1162 (by decide) (fun _ => ?_) (fun h9 => absurd (by decide) h9)
        refine lv_iinc (v := 7) (lv' := [(3, .int 7), (2, .ref q9), (1, .ref q1), (0, .ref b)]) hx hb dL_law_1474 hl (k := 0) rfl (by decide) (by decide) rfl (fun ls hl => ?_)
        refine lv_goto (tgt := 18) hx hb dL_law_1477 (by decide) ?_
        refine lv_iload_n hx hb dL_law_18 rfl (lv_at hl 0 rfl) ?_
        refine lv_pc (q := 19) rfl ?_
        refine lv_aload_n hx hb dL_law_19 rfl (lv_at hl 3 rfl) ?_
        refine va_slen hx hb hX hbl hbA hS dL_law_20 ?_
        refine lv_fixi (y := 7) (by decide) ?_
        refine lv_bipush (v := 7) hx hb dL_law_21 (by decide) ?_
        refine lv_isub hx hb dL_law_23 ?_
        refine lv_fixi (y := 0) (by decide) ?_
        refine lv_icmp_gt (tgt := 1480) hx hb dL_law_24 (by decide) (fun _ => ?_) (fun h9 => absurd (by decide) h9)
        refine lv_iconst (v := 1) hx hb dL_law_1480 (by decide) ?_
        refine lv_pc (q := 1481) rfl ?_
        refine va_forget (fun q hq => by have h9 := hS.2.2 q hq; rw [hAe] at h9; exact h9) ?_
        refine W.widen (k := 600000) (n := 7302250) (by decide) (by decide) ?_
        exact lw_ret hx hb hr hlocks dL_law_1481
      have hP : va_P D vwCl [(q9, .inr (12, [.int 0, .int 4, .int 4, .ref (u11 0), .ref (u11 1), .ref (u11 2), .ref (u11 3), .int 0, .ref (u11 4), .ref (u11 5), .int 0, .ref (u11 6), .ref (u11 7), .ref (u11 8), .ref (u11 9), .ref (u11 10), .ref (u11 11), .ref (u11 12), .int 0, .ref (u11 13), .ref (u11 14), .ref (u11 15), .ref (u11 16), .ref (u11 17), .ref (u11 18), .int 0, .ref (u11 19), .int 0, .int 0, .int 0, .ref (u11 20), .int 0, .int 0, .ref (u11 21), .int 0, .ref (u11 60), .ref (u11 22), .ref (u11 23), .ref (u11 24), .ref (u11 61), .ref (u11 25), .ref (u11 26), .ref (u11 62), .ref (u11 63), .ref (u11 64), .ref (u11 27), .ref (u11 28), .ref (u11 29), .ref (u11 30), .ref (u11 31), .ref (u11 32), .ref (u11 33), .ref (u11 34), .ref (u11 35), .ref (u11 36), .ref (u11 37), .ref (u11 38), .ref (u11 65), .int 0, .int 0, .int 0, .int 0, .int 0, .long 0, .int 0, .int 0, .int 0, .int 0, .int 0, .int (-1), .int 0, .ref (u11 39), .ref (u11 40), .ref (u11 41), .ref (u11 42), .ref (u11 43), .int 0, .int 0, .ref (u11 44), .ref (u11 45), .ref (u11 46), .ref (u11 47), .ref (u11 48), .ref (u11 49), .ref (u11 50), .ref (u11 51), .int 0, .int 0, .int 0, .int 0, .ref (u11 52), .ref (u11 53), .int 0, .ref (u11 54), .ref (u11 55), .ref (u11 56), .ref (u11 57), .ref (u11 58), .ref (u11 59)]))] H := hP
      have hD : va_D A [(q9, .inr (12, [.int 0, .int 4, .int 4, .ref (u11 0), .ref (u11 1), .ref (u11 2), .ref (u11 3), .int 0, .ref (u11 4), .ref (u11 5), .int 0, .ref (u11 6), .ref (u11 7), .ref (u11 8), .ref (u11 9), .ref (u11 10), .ref (u11 11), .ref (u11 12), .int 0, .ref (u11 13), .ref (u11 14), .ref (u11 15), .ref (u11 16), .ref (u11 17), .ref (u11 18), .int 0, .ref (u11 19), .int 0, .int 0, .int 0, .ref (u11 20), .int 0, .int 0, .ref (u11 21), .int 0, .ref (u11 60), .ref (u11 22), .ref (u11 23), .ref (u11 24), .ref (u11 61), .ref (u11 25), .ref (u11 26), .ref (u11 62), .ref (u11 63), .ref (u11 64), .ref (u11 27), .ref (u11 28), .ref (u11 29), .ref (u11 30), .ref (u11 31), .ref (u11 32), .ref (u11 33), .ref (u11 34), .ref (u11 35), .ref (u11 36), .ref (u11 37), .ref (u11 38), .ref (u11 65), .int 0, .int 0, .int 0, .int 0, .int 0, .long 0, .int 0, .int 0, .int 0, .int 0, .int 0, .int (-1), .int 0, .ref (u11 39), .ref (u11 40), .ref (u11 41), .ref (u11 42), .ref (u11 43), .int 0, .int 0, .ref (u11 44), .ref (u11 45), .ref (u11 46), .ref (u11 47), .ref (u11 48), .ref (u11 49), .ref (u11 50), .ref (u11 51), .int 0, .int 0, .int 0, .int 0, .ref (u11 52), .ref (u11 53), .int 0, .ref (u11 54), .ref (u11 55), .ref (u11 56), .ref (u11 57), .ref (u11 58), .ref (u11 59)]))] := hD
      refine lv_aload_n hx hb dL_law_1153 rfl (lv_at hl 1 rfl) ?_
      refine lv_aload_n hx hb dL_law_1154 rfl (lv_at hl 3 rfl) ?_
      refine lv_iload_n hx hb dL_law_1155 rfl (lv_at hl 0 rfl) ?_
      refine lv_iconst (v := 1) hx hb dL_law_1156 (by decide) ?_
      refine lv_iadd hx hb dL_law_1157 ?_
      refine lv_fixi (y := 1) (by decide) ?_
      refine lv_pc (q := 1158) rfl ?_
      refine va_sld (i := 1) hx hb hX hbl hbA hS (by show ¬ (_ ∨ _); decide) dL_law_1158 ?_
      refine lv_fixi (y := (xs 1)) rfl ?_
      refine uVi (As := [.int (xs 1)]) (rest := [.int (-1)]) (wr := []) [(q9, .inr (12, [.int 0, .int 4, .int 4, .ref (u11 0), .ref (u11 1), .ref (u11 2), .ref (u11 3), .int 0, .ref (u11 4), .ref (u11 5), .int 0, .ref (u11 6), .ref (u11 7), .ref (u11 8), .ref (u11 9), .ref (u11 10), .ref (u11 11), .ref (u11 12), .int 0, .ref (u11 13), .ref (u11 14), .ref (u11 15), .ref (u11 16), .ref (u11 17), .ref (u11 18), .int 0, .ref (u11 19), .int 0, .int 0, .int 0, .ref (u11 20), .int 0, .int 0, .ref (u11 21), .int 0, .ref (u11 60), .ref (u11 22), .ref (u11 23), .ref (u11 24), .ref (u11 61), .ref (u11 25), .ref (u11 26), .ref (u11 62), .ref (u11 63), .ref (u11 64), .ref (u11 27), .ref (u11 28), .ref (u11 29), .ref (u11 30), .ref (u11 31), .ref (u11 32), .ref (u11 33), .ref (u11 34), .ref (u11 35), .ref (u11 36), .ref (u11 37), .ref (u11 38), .ref (u11 65), .int 0, .int 0, .int 0, .int 0, .int 0, .long 0, .int 0, .int 0, .int 0, .int 0, .int 0, .int (-1), .int 0, .ref (u11 39), .ref (u11 40), .ref (u11 41), .ref (u11 42), .ref (u11 43), .int 0, .int 0, .ref (u11 44), .ref (u11 45), .ref (u11 46), .ref (u11 47), .ref (u11 48), .ref (u11 49), .ref (u11 50), .ref (u11 51), .int 0, .int 0, .int 0, .int 0, .ref (u11 52), .ref (u11 53), .int 0, .ref (u11 54), .ref (u11 55), .ref (u11 56), .ref (u11 57), .ref (u11 58), .ref (u11 59)]))] B hl.1 hP hD hS [0] [] rfl rfl rfl (kX12_fault_151 l D K _ q9 (u11 0) (u11 1) (u11 2) (u11 3) (u11 4) (u11 5) (u11 6) (u11 7) (u11 8) (u11 9) (u11 10) (u11 11) (u11 12) (u11 13) (u11 14) (u11 15) (u11 16) (u11 17) (u11 18) (u11 19) (u11 20) (u11 21) (u11 60) (u11 22) (u11 23) (u11 24) (u11 61) (u11 25) (u11 26) (u11 62) (u11 63) (u11 64) (u11 27) (u11 28) (u11 29) (u11 30) (u11 31) (u11 32) (u11 33) (u11 34) (u11 35) (u11 36) (u11 37) (u11 38) (u11 65) (u11 39) (u11 40) (u11 41) (u11 42) (u11 43) (u11 44) (u11 45) (u11 46) (u11 47) (u11 48) (u11 49) (u11 50) (u11 51) (u11 52) (u11 53) (u11 54) (u11 55) (u11 56) (u11 57) (u11 58) (u11 59) (xs 1)) wd_X12_fault mml_L_118 rfl rfl rfl rfl ⟨Nat.le_of_ble_eq_true rfl, Nat.le_of_ble_eq_true rfl⟩ (Nat.le_of_ble_eq_true rfl) ⟨Nat.le_of_ble_eq_true rfl, Nat.le_of_ble_eq_true rfl⟩ dL_law_1159 (fun r341 u H locs hw hP hD hS => ?_)
      try dsimp only at hw
      rcases hw with ⟨rfl, w342⟩ | ⟨rfl, w343⟩
      · have hP : va_P D vwCl [] H := hP
        have hD : va_D A [] := hD
        refine lv_icmp_eq (tgt := 1474) hx hb dL_law_1162 (by decide) (fun _ => ?_) (fun h9 => absurd (by decide) h9)
        refine lv_iinc (v := 7) (lv' := [(3, .int 7), (2, .ref q9), (1, .ref q1), (0, .ref b)]) hx hb dL_law_1474 hl (k := 0) rfl (by decide) (by decide) rfl (fun ls hl => ?_)
        refine lv_goto (tgt := 18) hx hb dL_law_1477 (by decide) ?_
        refine lv_iload_n hx hb dL_law_18 rfl (lv_at hl 0 rfl) ?_
        refine lv_pc (q := 19) rfl ?_
        refine lv_aload_n hx hb dL_law_19 rfl (lv_at hl 3 rfl) ?_
        refine va_slen hx hb hX hbl hbA hS dL_law_20 ?_
        refine lv_fixi (y := 7) (by decide) ?_
        refine lv_bipush (v := 7) hx hb dL_law_21 (by decide) ?_
        refine lv_isub hx hb dL_law_23 ?_
        refine lv_fixi (y := 0) (by decide) ?_
        refine lv_icmp_gt (tgt := 1480) hx hb dL_law_24 (by decide) (fun _ => ?_) (fun h9 => absurd (by decide) h9)
        refine lv_iconst (v := 1) hx hb dL_law_1480 (by decide) ?_
        refine lv_pc (q := 1481) rfl ?_
        refine va_forget (fun q hq => by have h9 := hS.2.2 q hq; rw [hAe] at h9; exact h9) ?_
        refine W.widen (k := 600000) (n := 7302250) (by decide) (by decide) ?_
        exact lw_ret hx hb hr hlocks dL_law_1481
      have hP : va_P D vwCl [] H := hP
      have hD : va_D A [] := hD
      exfalso
      try simp only [fa_lt, fa_le, fa_eq, Int32.reduceToInt] at w337 w343
      omega
    · refine lv_fixi (y := 23) ejj ?_
      refine lv_tableIn (off := 1134) (tgt := 1167) hx hb dL_law_33 (by decide) (by decide) rfl (by decide) ?_
      replace hP := uSub (wc := [(q1, .inr (11, [.ref (u3 0), .ref (u3 7), .ref (u3 16), .ref (u3 17), .ref (u3 24), .ref (u3 27), .ref (u3 30), .ref (u3 33), .ref (u3 62), .ref (u3 77), .ref (u3 50)])), (u3 50, .inr (7, [.ref (u3 51), .ref (u3 52), .ref (u3 53), .ref (u3 54), .ref (u3 55), .ref (u3 56), .ref (u3 57), .ref (u3 58), .ref (u3 59), .ref (u3 60), .ref (u3 61), .int 0, .int 0, .int 0, .int 2, .int 1])), (q9, .inr (12, [.int 0, .int 4, .int 4, .ref (u11 0), .ref (u11 1), .ref (u11 2), .ref (u11 3), .int 0, .ref (u11 4), .ref (u11 5), .int 0, .ref (u11 6), .ref (u11 7), .ref (u11 8), .ref (u11 9), .ref (u11 10), .ref (u11 11), .ref (u11 12), .int 0, .ref (u11 13), .ref (u11 14), .ref (u11 15), .ref (u11 16), .ref (u11 17), .ref (u11 18), .int 0, .ref (u11 19), .int 0, .int 0, .int 0, .ref (u11 20), .int 0, .int 0, .ref (u11 21), .int 0, .ref (u11 60), .ref (u11 22), .ref (u11 23), .ref (u11 24), .ref (u11 61), .ref (u11 25), .ref (u11 26), .ref (u11 62), .ref (u11 63), .ref (u11 64), .ref (u11 27), .ref (u11 28), .ref (u11 29), .ref (u11 30), .ref (u11 31), .ref (u11 32), .ref (u11 33), .ref (u11 34), .ref (u11 35), .ref (u11 36), .ref (u11 37), .ref (u11 38), .ref (u11 65), .int 0, .int 0, .int 0, .int 0, .int 0, .long 0, .int 0, .int 0, .int 0, .int 0, .int 0, .int (-1), .int 0, .ref (u11 39), .ref (u11 40), .ref (u11 41), .ref (u11 42), .ref (u11 43), .int 0, .int 0, .ref (u11 44), .ref (u11 45), .ref (u11 46), .ref (u11 47), .ref (u11 48), .ref (u11 49), .ref (u11 50), .ref (u11 51), .int 0, .int 0, .int 0, .int 0, .ref (u11 52), .ref (u11 53), .int 0, .ref (u11 54), .ref (u11 55), .ref (u11 56), .ref (u11 57), .ref (u11 58), .ref (u11 59)])), (u11 60, .inl (K 0, 2, .inl u14))]) hP [0, 51, 97, 158] rfl
      replace hD := hD.sub (ws' := [(q1, .inr (11, [.ref (u3 0), .ref (u3 7), .ref (u3 16), .ref (u3 17), .ref (u3 24), .ref (u3 27), .ref (u3 30), .ref (u3 33), .ref (u3 62), .ref (u3 77), .ref (u3 50)])), (u3 50, .inr (7, [.ref (u3 51), .ref (u3 52), .ref (u3 53), .ref (u3 54), .ref (u3 55), .ref (u3 56), .ref (u3 57), .ref (u3 58), .ref (u3 59), .ref (u3 60), .ref (u3 61), .int 0, .int 0, .int 0, .int 2, .int 1])), (q9, .inr (12, [.int 0, .int 4, .int 4, .ref (u11 0), .ref (u11 1), .ref (u11 2), .ref (u11 3), .int 0, .ref (u11 4), .ref (u11 5), .int 0, .ref (u11 6), .ref (u11 7), .ref (u11 8), .ref (u11 9), .ref (u11 10), .ref (u11 11), .ref (u11 12), .int 0, .ref (u11 13), .ref (u11 14), .ref (u11 15), .ref (u11 16), .ref (u11 17), .ref (u11 18), .int 0, .ref (u11 19), .int 0, .int 0, .int 0, .ref (u11 20), .int 0, .int 0, .ref (u11 21), .int 0, .ref (u11 60), .ref (u11 22), .ref (u11 23), .ref (u11 24), .ref (u11 61), .ref (u11 25), .ref (u11 26), .ref (u11 62), .ref (u11 63), .ref (u11 64), .ref (u11 27), .ref (u11 28), .ref (u11 29), .ref (u11 30), .ref (u11 31), .ref (u11 32), .ref (u11 33), .ref (u11 34), .ref (u11 35), .ref (u11 36), .ref (u11 37), .ref (u11 38), .ref (u11 65), .int 0, .int 0, .int 0, .int 0, .int 0, .long 0, .int 0, .int 0, .int 0, .int 0, .int 0, .int (-1), .int 0, .ref (u11 39), .ref (u11 40), .ref (u11 41), .ref (u11 42), .ref (u11 43), .int 0, .int 0, .ref (u11 44), .ref (u11 45), .ref (u11 46), .ref (u11 47), .ref (u11 48), .ref (u11 49), .ref (u11 50), .ref (u11 51), .int 0, .int 0, .int 0, .int 0, .ref (u11 52), .ref (u11 53), .int 0, .ref (u11 54), .ref (u11 55), .ref (u11 56), .ref (u11 57), .ref (u11 58), .ref (u11 59)])), (u11 60, .inl (K 0, 2, .inl u14))]) [0, 51, 97, 158] rfl rfl
      refine lv_pc (q := 1167) rfl ?_
      refine lv_aload_n hx hb dL_law_1167 rfl (lv_at hl 2 rfl) ?_
      refine lv_aload_n hx hb dL_law_1168 rfl (lv_at hl 3 rfl) ?_
      refine lv_iload_n hx hb dL_law_1169 rfl (lv_at hl 0 rfl) ?_
      refine lv_iconst (v := 1) hx hb dL_law_1170 (by decide) ?_
      refine lv_iadd hx hb dL_law_1171 ?_
      refine lv_fixi (y := 1) (by decide) ?_
      refine va_sld (i := 1) hx hb hX hbl hbA hS (by show ¬ (_ ∨ _); decide) dL_law_1172 ?_
      refine lv_fixi (y := (xs 1)) rfl ?_
      refine lv_pc (q := 1173) rfl ?_
      refine lv_aload_n hx hb dL_law_1173 rfl (lv_at hl 3 rfl) ?_
      refine lv_iload_n hx hb dL_law_1174 rfl (lv_at hl 0 rfl) ?_
      refine lv_iconst (v := 2) hx hb dL_law_1175 (by decide) ?_
      refine lv_iadd hx hb dL_law_1176 ?_
      refine lv_fixi (y := 2) (by decide) ?_
      refine va_sld (i := 2) hx hb hX hbl hbA hS (by show ¬ (_ ∨ _); decide) dL_law_1177 ?_
      refine lv_fixi (y := (xs 2)) rfl ?_
      refine lv_aload_n hx hb dL_law_1178 rfl (lv_at hl 3 rfl) ?_
      refine lv_pc (q := 1179) rfl ?_
      refine lv_iload_n hx hb dL_law_1179 rfl (lv_at hl 0 rfl) ?_
      refine lv_iconst (v := 3) hx hb dL_law_1180 (by decide) ?_
      refine lv_iadd hx hb dL_law_1181 ?_
      refine lv_fixi (y := 3) (by decide) ?_
      refine va_sld (i := 3) hx hb hX hbl hbA hS (by show ¬ (_ ∨ _); decide) dL_law_1182 ?_
      refine lv_fixi (y := (xs 3)) rfl ?_
      refine lv_aload_n hx hb dL_law_1183 rfl (lv_at hl 3 rfl) ?_
      refine lv_iload_n hx hb dL_law_1184 rfl (lv_at hl 0 rfl) ?_
      refine lv_pc (q := 1185) rfl ?_
      refine lv_iconst (v := 4) hx hb dL_law_1185 (by decide) ?_
      refine lv_iadd hx hb dL_law_1186 ?_
      refine lv_fixi (y := 4) (by decide) ?_
      refine va_sld (i := 4) hx hb hX hbl hbA hS (by show ¬ (_ ∨ _); decide) dL_law_1187 ?_
      refine lv_fixi (y := (xs 4)) rfl ?_
      refine lv_aload_n hx hb dL_law_1188 rfl (lv_at hl 3 rfl) ?_
      refine lv_iload_n hx hb dL_law_1189 rfl (lv_at hl 0 rfl) ?_
      refine lv_iconst (v := 5) hx hb dL_law_1190 (by decide) ?_
      refine lv_pc (q := 1191) rfl ?_
      refine lv_iadd hx hb dL_law_1191 ?_
      refine lv_fixi (y := 5) (by decide) ?_
      refine va_sld (i := 5) hx hb hX hbl hbA hS (by show ¬ (_ ∨ _); decide) dL_law_1192 ?_
      refine lv_fixi (y := (xs 5)) rfl ?_
      refine uVi (As := [.int (xs 1), .int (xs 2), .int (xs 3), .int (xs 4), .int (xs 5)]) (rest := []) (wr := [(q9, .inr (12, [.int 0, .int 4, .int 4, .ref (u11 0), .ref (u11 1), .ref (u11 2), .ref (u11 3), .int 0, .ref (u11 4), .ref (u11 5), .int 0, .ref (u11 6), .ref (u11 7), .ref (u11 8), .ref (u11 9), .ref (u11 10), .ref (u11 11), .ref (u11 12), .int 0, .ref (u11 13), .ref (u11 14), .ref (u11 15), .ref (u11 16), .ref (u11 17), .ref (u11 18), .int 0, .ref (u11 19), .int 0, .int 0, .int 0, .ref (u11 20), .int 0, .int 0, .ref (u11 21), .int 0, .ref (u11 60), .ref (u11 22), .ref (u11 23), .ref (u11 24), .ref (u11 61), .ref (u11 25), .ref (u11 26), .ref (u11 62), .ref (u11 63), .ref (u11 64), .ref (u11 27), .ref (u11 28), .ref (u11 29), .ref (u11 30), .ref (u11 31), .ref (u11 32), .ref (u11 33), .ref (u11 34), .ref (u11 35), .ref (u11 36), .ref (u11 37), .ref (u11 38), .ref (u11 65), .int 0, .int 0, .int 0, .int 0, .int 0, .long 0, .int 0, .int 0, .int 0, .int 0, .int 0, .int (-1), .int 0, .ref (u11 39), .ref (u11 40), .ref (u11 41), .ref (u11 42), .ref (u11 43), .int 0, .int 0, .ref (u11 44), .ref (u11 45), .ref (u11 46), .ref (u11 47), .ref (u11 48), .ref (u11 49), .ref (u11 50), .ref (u11 51), .int 0, .int 0, .int 0, .int 0, .ref (u11 52), .ref (u11 53), .int 0, .ref (u11 54), .ref (u11 55), .ref (u11 56), .ref (u11 57), .ref (u11 58), .ref (u11 59)])), (u11 60, .inl (K 0, 2, .inl u14))]) [(q1, .inr (11, [.ref (u3 0), .ref (u3 7), .ref (u3 16), .ref (u3 17), .ref (u3 24), .ref (u3 27), .ref (u3 30), .ref (u3 33), .ref (u3 62), .ref (u3 77), .ref (u3 50)])), (u3 50, .inr (7, [.ref (u3 51), .ref (u3 52), .ref (u3 53), .ref (u3 54), .ref (u3 55), .ref (u3 56), .ref (u3 57), .ref (u3 58), .ref (u3 59), .ref (u3 60), .ref (u3 61), .int 0, .int 0, .int 0, .int 2, .int 1]))] B hl.1 hP hD hS [0, 1] [2, 3] rfl rfl rfl (kX11_send_152 l D K _ q1 (u3 50) (u3 0) (u3 7) (u3 16) (u3 17) (u3 24) (u3 27) (u3 30) (u3 33) (u3 62) (u3 77) (u3 51) (u3 52) (u3 53) (u3 54) (u3 55) (u3 56) (u3 57) (u3 58) (u3 59) (u3 60) (u3 61) (xs 1) (xs 2) (xs 3) (xs 4) (xs 5)) wd_X11_send mml_L_119 rfl rfl rfl rfl ⟨Nat.le_of_ble_eq_true rfl, Nat.le_of_ble_eq_true rfl⟩ (Nat.le_of_ble_eq_true rfl) ⟨Nat.le_of_ble_eq_true rfl, Nat.le_of_ble_eq_true rfl⟩ dL_law_1193 (fun r344 u H locs hw hP hD hS => ?_)
      try dsimp only at hw
      rcases hw with ⟨rfl, w345⟩
      have hP : va_P D vwCl [(q9, .inr (12, [.int 0, .int 4, .int 4, .ref (u11 0), .ref (u11 1), .ref (u11 2), .ref (u11 3), .int 0, .ref (u11 4), .ref (u11 5), .int 0, .ref (u11 6), .ref (u11 7), .ref (u11 8), .ref (u11 9), .ref (u11 10), .ref (u11 11), .ref (u11 12), .int 0, .ref (u11 13), .ref (u11 14), .ref (u11 15), .ref (u11 16), .ref (u11 17), .ref (u11 18), .int 0, .ref (u11 19), .int 0, .int 0, .int 0, .ref (u11 20), .int 0, .int 0, .ref (u11 21), .int 0, .ref (u11 60), .ref (u11 22), .ref (u11 23), .ref (u11 24), .ref (u11 61), .ref (u11 25), .ref (u11 26), .ref (u11 62), .ref (u11 63), .ref (u11 64), .ref (u11 27), .ref (u11 28), .ref (u11 29), .ref (u11 30), .ref (u11 31), .ref (u11 32), .ref (u11 33), .ref (u11 34), .ref (u11 35), .ref (u11 36), .ref (u11 37), .ref (u11 38), .ref (u11 65), .int 0, .int 0, .int 0, .int 0, .int 0, .long 0, .int 0, .int 0, .int 0, .int 0, .int 0, .int (-1), .int 0, .ref (u11 39), .ref (u11 40), .ref (u11 41), .ref (u11 42), .ref (u11 43), .int 0, .int 0, .ref (u11 44), .ref (u11 45), .ref (u11 46), .ref (u11 47), .ref (u11 48), .ref (u11 49), .ref (u11 50), .ref (u11 51), .int 0, .int 0, .int 0, .int 0, .ref (u11 52), .ref (u11 53), .int 0, .ref (u11 54), .ref (u11 55), .ref (u11 56), .ref (u11 57), .ref (u11 58), .ref (u11 59)])), (u11 60, .inl (K 0, 2, .inl u14))] H := hP
      have hD : va_D A [(q9, .inr (12, [.int 0, .int 4, .int 4, .ref (u11 0), .ref (u11 1), .ref (u11 2), .ref (u11 3), .int 0, .ref (u11 4), .ref (u11 5), .int 0, .ref (u11 6), .ref (u11 7), .ref (u11 8), .ref (u11 9), .ref (u11 10), .ref (u11 11), .ref (u11 12), .int 0, .ref (u11 13), .ref (u11 14), .ref (u11 15), .ref (u11 16), .ref (u11 17), .ref (u11 18), .int 0, .ref (u11 19), .int 0, .int 0, .int 0, .ref (u11 20), .int 0, .int 0, .ref (u11 21), .int 0, .ref (u11 60), .ref (u11 22), .ref (u11 23), .ref (u11 24), .ref (u11 61), .ref (u11 25), .ref (u11 26), .ref (u11 62), .ref (u11 63), .ref (u11 64), .ref (u11 27), .ref (u11 28), .ref (u11 29), .ref (u11 30), .ref (u11 31), .ref (u11 32), .ref (u11 33), .ref (u11 34), .ref (u11 35), .ref (u11 36), .ref (u11 37), .ref (u11 38), .ref (u11 65), .int 0, .int 0, .int 0, .int 0, .int 0, .long 0, .int 0, .int 0, .int 0, .int 0, .int 0, .int (-1), .int 0, .ref (u11 39), .ref (u11 40), .ref (u11 41), .ref (u11 42), .ref (u11 43), .int 0, .int 0, .ref (u11 44), .ref (u11 45), .ref (u11 46), .ref (u11 47), .ref (u11 48), .ref (u11 49), .ref (u11 50), .ref (u11 51), .int 0, .int 0, .int 0, .int 0, .ref (u11 52), .ref (u11 53), .int 0, .ref (u11 54), .ref (u11 55), .ref (u11 56), .ref (u11 57), .ref (u11 58), .ref (u11 59)])), (u11 60, .inl (K 0, 2, .inl u14))] := hD
      refine lv_aload_n hx hb dL_law_1196 rfl (lv_at hl 1 rfl) ?_
      refine lv_aload_n hx hb dL_law_1197 rfl (lv_at hl 3 rfl) ?_
      refine lv_iload_n hx hb dL_law_1198 rfl (lv_at hl 0 rfl) ?_
      refine lv_pc (q := 1199) rfl ?_
      refine lv_iconst (v := 1) hx hb dL_law_1199 (by decide) ?_
      refine lv_iadd hx hb dL_law_1200 ?_
      refine lv_fixi (y := 1) (by decide) ?_
      refine va_sld (i := 1) hx hb hX hbl hbA hS (by show ¬ (_ ∨ _); decide) dL_law_1201 ?_
      refine lv_fixi (y := (xs 1)) rfl ?_
      refine lv_aload_n hx hb dL_law_1202 rfl (lv_at hl 3 rfl) ?_
      refine lv_iload_n hx hb dL_law_1203 rfl (lv_at hl 0 rfl) ?_
      refine lv_iconst (v := 2) hx hb dL_law_1204 (by decide) ?_
      refine lv_pc (q := 1205) rfl ?_
      refine lv_iadd hx hb dL_law_1205 ?_
      refine lv_fixi (y := 2) (by decide) ?_
      refine va_sld (i := 2) hx hb hX hbl hbA hS (by show ¬ (_ ∨ _); decide) dL_law_1206 ?_
      refine lv_fixi (y := (xs 2)) rfl ?_
      refine lv_aload_n hx hb dL_law_1207 rfl (lv_at hl 3 rfl) ?_
      refine lv_iload_n hx hb dL_law_1208 rfl (lv_at hl 0 rfl) ?_
      refine lv_iconst (v := 3) hx hb dL_law_1209 (by decide) ?_
      refine lv_iadd hx hb dL_law_1210 ?_
      refine lv_fixi (y := 3) (by decide) ?_
      refine lv_pc (q := 1211) rfl ?_
      refine va_sld (i := 3) hx hb hX hbl hbA hS (by show ¬ (_ ∨ _); decide) dL_law_1211 ?_
      refine lv_fixi (y := (xs 3)) rfl ?_
      refine lv_aload_n hx hb dL_law_1212 rfl (lv_at hl 3 rfl) ?_
      refine lv_iload_n hx hb dL_law_1213 rfl (lv_at hl 0 rfl) ?_
      refine lv_iconst (v := 4) hx hb dL_law_1214 (by decide) ?_
      refine lv_iadd hx hb dL_law_1215 ?_
      refine lv_fixi (y := 4) (by decide) ?_
      refine va_sld (i := 4) hx hb hX hbl hbA hS (by show ¬ (_ ∨ _); decide) dL_law_1216 ?_
      refine lv_fixi (y := (xs 4)) rfl ?_
      refine lv_pc (q := 1217) rfl ?_
      refine lv_aload_n hx hb dL_law_1217 rfl (lv_at hl 3 rfl) ?_
      refine lv_iload_n hx hb dL_law_1218 rfl (lv_at hl 0 rfl) ?_
      refine lv_iconst (v := 5) hx hb dL_law_1219 (by decide) ?_
      refine lv_iadd hx hb dL_law_1220 ?_
      refine lv_fixi (y := 5) (by decide) ?_
      refine va_sld (i := 5) hx hb hX hbl hbA hS (by show ¬ (_ ∨ _); decide) dL_law_1221 ?_
      refine lv_fixi (y := (xs 5)) rfl ?_
      refine uVi (As := [.int (xs 1), .int (xs 2), .int (xs 3), .int (xs 4), .int (xs 5)]) (rest := [.int (-1)]) (wr := []) [(q9, .inr (12, [.int 0, .int 4, .int 4, .ref (u11 0), .ref (u11 1), .ref (u11 2), .ref (u11 3), .int 0, .ref (u11 4), .ref (u11 5), .int 0, .ref (u11 6), .ref (u11 7), .ref (u11 8), .ref (u11 9), .ref (u11 10), .ref (u11 11), .ref (u11 12), .int 0, .ref (u11 13), .ref (u11 14), .ref (u11 15), .ref (u11 16), .ref (u11 17), .ref (u11 18), .int 0, .ref (u11 19), .int 0, .int 0, .int 0, .ref (u11 20), .int 0, .int 0, .ref (u11 21), .int 0, .ref (u11 60), .ref (u11 22), .ref (u11 23), .ref (u11 24), .ref (u11 61), .ref (u11 25), .ref (u11 26), .ref (u11 62), .ref (u11 63), .ref (u11 64), .ref (u11 27), .ref (u11 28), .ref (u11 29), .ref (u11 30), .ref (u11 31), .ref (u11 32), .ref (u11 33), .ref (u11 34), .ref (u11 35), .ref (u11 36), .ref (u11 37), .ref (u11 38), .ref (u11 65), .int 0, .int 0, .int 0, .int 0, .int 0, .long 0, .int 0, .int 0, .int 0, .int 0, .int 0, .int (-1), .int 0, .ref (u11 39), .ref (u11 40), .ref (u11 41), .ref (u11 42), .ref (u11 43), .int 0, .int 0, .ref (u11 44), .ref (u11 45), .ref (u11 46), .ref (u11 47), .ref (u11 48), .ref (u11 49), .ref (u11 50), .ref (u11 51), .int 0, .int 0, .int 0, .int 0, .ref (u11 52), .ref (u11 53), .int 0, .ref (u11 54), .ref (u11 55), .ref (u11 56), .ref (u11 57), .ref (u11 58), .ref (u11 59)])), (u11 60, .inl (K 0, 2, .inl u14))] B hl.1 hP hD hS [0, 1] [] rfl rfl rfl (kX12_send_153 l D K _ q9 (u11 60) (u11 0) (u11 1) (u11 2) (u11 3) (u11 4) (u11 5) (u11 6) (u11 7) (u11 8) (u11 9) (u11 10) (u11 11) (u11 12) (u11 13) (u11 14) (u11 15) (u11 16) (u11 17) (u11 18) (u11 19) (u11 20) (u11 21) (u11 22) (u11 23) (u11 24) (u11 61) (u11 25) (u11 26) (u11 62) (u11 63) (u11 64) (u11 27) (u11 28) (u11 29) (u11 30) (u11 31) (u11 32) (u11 33) (u11 34) (u11 35) (u11 36) (u11 37) (u11 38) (u11 65) (u11 39) (u11 40) (u11 41) (u11 42) (u11 43) (u11 44) (u11 45) (u11 46) (u11 47) (u11 48) (u11 49) (u11 50) (u11 51) (u11 52) (u11 53) (u11 54) (u11 55) (u11 56) (u11 57) (u11 58) (u11 59) u14 (xs 1) (xs 2) (xs 3) (xs 4) (xs 5) a20) wd_X12_send mml_L_122 rfl rfl rfl rfl ⟨Nat.le_of_ble_eq_true rfl, Nat.le_of_ble_eq_true rfl⟩ (Nat.le_of_ble_eq_true rfl) ⟨Nat.le_of_ble_eq_true rfl, Nat.le_of_ble_eq_true rfl⟩ dL_law_1222 (fun r346 u H locs hw hP hD hS => ?_)
      try dsimp only at hw
      rcases hw with ⟨rfl, w347⟩
      have hP : va_P D vwCl [] H := hP
      have hD : va_D A [] := hD
      refine lv_pc (q := 1225) rfl ?_
      refine lv_icmp_eq (tgt := 1474) hx hb dL_law_1225 (by decide) (fun _ => ?_) (fun h9 => absurd (by decide) h9)
      refine lv_iinc (v := 7) (lv' := [(3, .int 7), (2, .ref q9), (1, .ref q1), (0, .ref b)]) hx hb dL_law_1474 hl (k := 0) rfl (by decide) (by decide) rfl (fun ls hl => ?_)
      refine lv_goto (tgt := 18) hx hb dL_law_1477 (by decide) ?_
      refine lv_iload_n hx hb dL_law_18 rfl (lv_at hl 0 rfl) ?_
      refine lv_aload_n hx hb dL_law_19 rfl (lv_at hl 3 rfl) ?_
      refine va_slen hx hb hX hbl hbA hS dL_law_20 ?_
      refine lv_fixi (y := 7) (by decide) ?_
      refine lv_pc (q := 21) rfl ?_
      refine lv_bipush (v := 7) hx hb dL_law_21 (by decide) ?_
      refine lv_isub hx hb dL_law_23 ?_
      refine lv_fixi (y := 0) (by decide) ?_
      refine lv_icmp_gt (tgt := 1480) hx hb dL_law_24 (by decide) (fun _ => ?_) (fun h9 => absurd (by decide) h9)
      refine lv_iconst (v := 1) hx hb dL_law_1480 (by decide) ?_
      refine va_forget (fun q hq => by have h9 := hS.2.2 q hq; rw [hAe] at h9; exact h9) ?_
      refine W.widen (k := 600000) (n := 7302250) (by decide) (by decide) ?_
      exact lw_ret hx hb hr hlocks dL_law_1481
    · refine lv_fixi (y := 24) ejj ?_
      refine lv_tableIn (off := 1197) (tgt := 1230) hx hb dL_law_33 (by decide) (by decide) rfl (by decide) ?_
      replace hP := uSub (wc := [(q1, .inr (11, [.ref (u3 0), .ref (u3 7), .ref (u3 16), .ref (u3 17), .ref (u3 24), .ref (u3 27), .ref (u3 30), .ref (u3 33), .ref (u3 62), .ref (u3 77), .ref (u3 50)])), (u3 62, .inr (2, [.ref (u3 24), .ref (u3 50), .int 0, .int 0, .ref (u3 63), .ref (u3 64), .ref (u3 69), .ref (u3 70), .ref (u3 71), .ref (u3 72), .ref (u3 73), .ref (u3 74), .ref (u3 75), .ref (u3 76)])), (q9, .inr (12, [.int 0, .int 4, .int 4, .ref (u11 0), .ref (u11 1), .ref (u11 2), .ref (u11 3), .int 0, .ref (u11 4), .ref (u11 5), .int 0, .ref (u11 6), .ref (u11 7), .ref (u11 8), .ref (u11 9), .ref (u11 10), .ref (u11 11), .ref (u11 12), .int 0, .ref (u11 13), .ref (u11 14), .ref (u11 15), .ref (u11 16), .ref (u11 17), .ref (u11 18), .int 0, .ref (u11 19), .int 0, .int 0, .int 0, .ref (u11 20), .int 0, .int 0, .ref (u11 21), .int 0, .ref (u11 60), .ref (u11 22), .ref (u11 23), .ref (u11 24), .ref (u11 61), .ref (u11 25), .ref (u11 26), .ref (u11 62), .ref (u11 63), .ref (u11 64), .ref (u11 27), .ref (u11 28), .ref (u11 29), .ref (u11 30), .ref (u11 31), .ref (u11 32), .ref (u11 33), .ref (u11 34), .ref (u11 35), .ref (u11 36), .ref (u11 37), .ref (u11 38), .ref (u11 65), .int 0, .int 0, .int 0, .int 0, .int 0, .long 0, .int 0, .int 0, .int 0, .int 0, .int 0, .int (-1), .int 0, .ref (u11 39), .ref (u11 40), .ref (u11 41), .ref (u11 42), .ref (u11 43), .int 0, .int 0, .ref (u11 44), .ref (u11 45), .ref (u11 46), .ref (u11 47), .ref (u11 48), .ref (u11 49), .ref (u11 50), .ref (u11 51), .int 0, .int 0, .int 0, .int 0, .ref (u11 52), .ref (u11 53), .int 0, .ref (u11 54), .ref (u11 55), .ref (u11 56), .ref (u11 57), .ref (u11 58), .ref (u11 59)]))]) hP [0, 63, 97] rfl
      replace hD := hD.sub (ws' := [(q1, .inr (11, [.ref (u3 0), .ref (u3 7), .ref (u3 16), .ref (u3 17), .ref (u3 24), .ref (u3 27), .ref (u3 30), .ref (u3 33), .ref (u3 62), .ref (u3 77), .ref (u3 50)])), (u3 62, .inr (2, [.ref (u3 24), .ref (u3 50), .int 0, .int 0, .ref (u3 63), .ref (u3 64), .ref (u3 69), .ref (u3 70), .ref (u3 71), .ref (u3 72), .ref (u3 73), .ref (u3 74), .ref (u3 75), .ref (u3 76)])), (q9, .inr (12, [.int 0, .int 4, .int 4, .ref (u11 0), .ref (u11 1), .ref (u11 2), .ref (u11 3), .int 0, .ref (u11 4), .ref (u11 5), .int 0, .ref (u11 6), .ref (u11 7), .ref (u11 8), .ref (u11 9), .ref (u11 10), .ref (u11 11), .ref (u11 12), .int 0, .ref (u11 13), .ref (u11 14), .ref (u11 15), .ref (u11 16), .ref (u11 17), .ref (u11 18), .int 0, .ref (u11 19), .int 0, .int 0, .int 0, .ref (u11 20), .int 0, .int 0, .ref (u11 21), .int 0, .ref (u11 60), .ref (u11 22), .ref (u11 23), .ref (u11 24), .ref (u11 61), .ref (u11 25), .ref (u11 26), .ref (u11 62), .ref (u11 63), .ref (u11 64), .ref (u11 27), .ref (u11 28), .ref (u11 29), .ref (u11 30), .ref (u11 31), .ref (u11 32), .ref (u11 33), .ref (u11 34), .ref (u11 35), .ref (u11 36), .ref (u11 37), .ref (u11 38), .ref (u11 65), .int 0, .int 0, .int 0, .int 0, .int 0, .long 0, .int 0, .int 0, .int 0, .int 0, .int 0, .int (-1), .int 0, .ref (u11 39), .ref (u11 40), .ref (u11 41), .ref (u11 42), .ref (u11 43), .int 0, .int 0, .ref (u11 44), .ref (u11 45), .ref (u11 46), .ref (u11 47), .ref (u11 48), .ref (u11 49), .ref (u11 50), .ref (u11 51), .int 0, .int 0, .int 0, .int 0, .ref (u11 52), .ref (u11 53), .int 0, .ref (u11 54), .ref (u11 55), .ref (u11 56), .ref (u11 57), .ref (u11 58), .ref (u11 59)]))]) [0, 63, 97] rfl rfl
      refine lv_pc (q := 1230) rfl ?_
      refine lv_aload_n hx hb dL_law_1230 rfl (lv_at hl 2 rfl) ?_
      refine lv_aload_n hx hb dL_law_1231 rfl (lv_at hl 3 rfl) ?_
      refine lv_iload_n hx hb dL_law_1232 rfl (lv_at hl 0 rfl) ?_
      refine lv_iconst (v := 1) hx hb dL_law_1233 (by decide) ?_
      refine lv_iadd hx hb dL_law_1234 ?_
      refine lv_fixi (y := 1) (by decide) ?_
      refine va_sld (i := 1) hx hb hX hbl hbA hS (by show ¬ (_ ∨ _); decide) dL_law_1235 ?_
      refine lv_fixi (y := (xs 1)) rfl ?_
      refine lv_pc (q := 1236) rfl ?_
      refine lv_aload_n hx hb dL_law_1236 rfl (lv_at hl 3 rfl) ?_
      refine lv_iload_n hx hb dL_law_1237 rfl (lv_at hl 0 rfl) ?_
      refine lv_iconst (v := 2) hx hb dL_law_1238 (by decide) ?_
      refine lv_iadd hx hb dL_law_1239 ?_
      refine lv_fixi (y := 2) (by decide) ?_
      refine va_sld (i := 2) hx hb hX hbl hbA hS (by show ¬ (_ ∨ _); decide) dL_law_1240 ?_
      refine lv_fixi (y := (xs 2)) rfl ?_
      refine lv_aload_n hx hb dL_law_1241 rfl (lv_at hl 3 rfl) ?_
      refine lv_pc (q := 1242) rfl ?_
      refine lv_iload_n hx hb dL_law_1242 rfl (lv_at hl 0 rfl) ?_
      refine lv_iconst (v := 3) hx hb dL_law_1243 (by decide) ?_
      refine lv_iadd hx hb dL_law_1244 ?_
      refine lv_fixi (y := 3) (by decide) ?_
      refine va_sld (i := 3) hx hb hX hbl hbA hS (by show ¬ (_ ∨ _); decide) dL_law_1245 ?_
      refine lv_fixi (y := (xs 3)) rfl ?_
      refine uVi (As := [.int (xs 1), .int (xs 2), .int (xs 3)]) (rest := []) (wr := [(q9, .inr (12, [.int 0, .int 4, .int 4, .ref (u11 0), .ref (u11 1), .ref (u11 2), .ref (u11 3), .int 0, .ref (u11 4), .ref (u11 5), .int 0, .ref (u11 6), .ref (u11 7), .ref (u11 8), .ref (u11 9), .ref (u11 10), .ref (u11 11), .ref (u11 12), .int 0, .ref (u11 13), .ref (u11 14), .ref (u11 15), .ref (u11 16), .ref (u11 17), .ref (u11 18), .int 0, .ref (u11 19), .int 0, .int 0, .int 0, .ref (u11 20), .int 0, .int 0, .ref (u11 21), .int 0, .ref (u11 60), .ref (u11 22), .ref (u11 23), .ref (u11 24), .ref (u11 61), .ref (u11 25), .ref (u11 26), .ref (u11 62), .ref (u11 63), .ref (u11 64), .ref (u11 27), .ref (u11 28), .ref (u11 29), .ref (u11 30), .ref (u11 31), .ref (u11 32), .ref (u11 33), .ref (u11 34), .ref (u11 35), .ref (u11 36), .ref (u11 37), .ref (u11 38), .ref (u11 65), .int 0, .int 0, .int 0, .int 0, .int 0, .long 0, .int 0, .int 0, .int 0, .int 0, .int 0, .int (-1), .int 0, .ref (u11 39), .ref (u11 40), .ref (u11 41), .ref (u11 42), .ref (u11 43), .int 0, .int 0, .ref (u11 44), .ref (u11 45), .ref (u11 46), .ref (u11 47), .ref (u11 48), .ref (u11 49), .ref (u11 50), .ref (u11 51), .int 0, .int 0, .int 0, .int 0, .ref (u11 52), .ref (u11 53), .int 0, .ref (u11 54), .ref (u11 55), .ref (u11 56), .ref (u11 57), .ref (u11 58), .ref (u11 59)]))]) [(q1, .inr (11, [.ref (u3 0), .ref (u3 7), .ref (u3 16), .ref (u3 17), .ref (u3 24), .ref (u3 27), .ref (u3 30), .ref (u3 33), .ref (u3 62), .ref (u3 77), .ref (u3 50)])), (u3 62, .inr (2, [.ref (u3 24), .ref (u3 50), .int 0, .int 0, .ref (u3 63), .ref (u3 64), .ref (u3 69), .ref (u3 70), .ref (u3 71), .ref (u3 72), .ref (u3 73), .ref (u3 74), .ref (u3 75), .ref (u3 76)]))] B hl.1 hP hD hS [0, 1] [2] rfl rfl rfl (kX11_heard_154 l D K _ q1 (u3 62) (u3 0) (u3 7) (u3 16) (u3 17) (u3 24) (u3 27) (u3 30) (u3 33) (u3 77) (u3 50) (u3 63) (u3 64) (u3 69) (u3 70) (u3 71) (u3 72) (u3 73) (u3 74) (u3 75) (u3 76) (xs 1) (xs 2) (xs 3)) wd_X11_heard mml_L_123 rfl rfl rfl rfl ⟨Nat.le_of_ble_eq_true rfl, Nat.le_of_ble_eq_true rfl⟩ (Nat.le_of_ble_eq_true rfl) ⟨Nat.le_of_ble_eq_true rfl, Nat.le_of_ble_eq_true rfl⟩ dL_law_1246 (fun r348 u H locs hw hP hD hS => ?_)
      try dsimp only at hw
      rcases hw with rfl
      have hP : va_P D vwCl [(q9, .inr (12, [.int 0, .int 4, .int 4, .ref (u11 0), .ref (u11 1), .ref (u11 2), .ref (u11 3), .int 0, .ref (u11 4), .ref (u11 5), .int 0, .ref (u11 6), .ref (u11 7), .ref (u11 8), .ref (u11 9), .ref (u11 10), .ref (u11 11), .ref (u11 12), .int 0, .ref (u11 13), .ref (u11 14), .ref (u11 15), .ref (u11 16), .ref (u11 17), .ref (u11 18), .int 0, .ref (u11 19), .int 0, .int 0, .int 0, .ref (u11 20), .int 0, .int 0, .ref (u11 21), .int 0, .ref (u11 60), .ref (u11 22), .ref (u11 23), .ref (u11 24), .ref (u11 61), .ref (u11 25), .ref (u11 26), .ref (u11 62), .ref (u11 63), .ref (u11 64), .ref (u11 27), .ref (u11 28), .ref (u11 29), .ref (u11 30), .ref (u11 31), .ref (u11 32), .ref (u11 33), .ref (u11 34), .ref (u11 35), .ref (u11 36), .ref (u11 37), .ref (u11 38), .ref (u11 65), .int 0, .int 0, .int 0, .int 0, .int 0, .long 0, .int 0, .int 0, .int 0, .int 0, .int 0, .int (-1), .int 0, .ref (u11 39), .ref (u11 40), .ref (u11 41), .ref (u11 42), .ref (u11 43), .int 0, .int 0, .ref (u11 44), .ref (u11 45), .ref (u11 46), .ref (u11 47), .ref (u11 48), .ref (u11 49), .ref (u11 50), .ref (u11 51), .int 0, .int 0, .int 0, .int 0, .ref (u11 52), .ref (u11 53), .int 0, .ref (u11 54), .ref (u11 55), .ref (u11 56), .ref (u11 57), .ref (u11 58), .ref (u11 59)]))] H := hP
      have hD : va_D A [(q9, .inr (12, [.int 0, .int 4, .int 4, .ref (u11 0), .ref (u11 1), .ref (u11 2), .ref (u11 3), .int 0, .ref (u11 4), .ref (u11 5), .int 0, .ref (u11 6), .ref (u11 7), .ref (u11 8), .ref (u11 9), .ref (u11 10), .ref (u11 11), .ref (u11 12), .int 0, .ref (u11 13), .ref (u11 14), .ref (u11 15), .ref (u11 16), .ref (u11 17), .ref (u11 18), .int 0, .ref (u11 19), .int 0, .int 0, .int 0, .ref (u11 20), .int 0, .int 0, .ref (u11 21), .int 0, .ref (u11 60), .ref (u11 22), .ref (u11 23), .ref (u11 24), .ref (u11 61), .ref (u11 25), .ref (u11 26), .ref (u11 62), .ref (u11 63), .ref (u11 64), .ref (u11 27), .ref (u11 28), .ref (u11 29), .ref (u11 30), .ref (u11 31), .ref (u11 32), .ref (u11 33), .ref (u11 34), .ref (u11 35), .ref (u11 36), .ref (u11 37), .ref (u11 38), .ref (u11 65), .int 0, .int 0, .int 0, .int 0, .int 0, .long 0, .int 0, .int 0, .int 0, .int 0, .int 0, .int (-1), .int 0, .ref (u11 39), .ref (u11 40), .ref (u11 41), .ref (u11 42), .ref (u11 43), .int 0, .int 0, .ref (u11 44), .ref (u11 45), .ref (u11 46), .ref (u11 47), .ref (u11 48), .ref (u11 49), .ref (u11 50), .ref (u11 51), .int 0, .int 0, .int 0, .int 0, .ref (u11 52), .ref (u11 53), .int 0, .ref (u11 54), .ref (u11 55), .ref (u11 56), .ref (u11 57), .ref (u11 58), .ref (u11 59)]))] := hD
      refine lv_aload_n hx hb dL_law_1249 rfl (lv_at hl 1 rfl) ?_
      refine lv_pc (q := 1250) rfl ?_
      refine lv_aload_n hx hb dL_law_1250 rfl (lv_at hl 3 rfl) ?_
      refine lv_iload_n hx hb dL_law_1251 rfl (lv_at hl 0 rfl) ?_
      refine lv_iconst (v := 1) hx hb dL_law_1252 (by decide) ?_
      refine lv_iadd hx hb dL_law_1253 ?_
      refine lv_fixi (y := 1) (by decide) ?_
      refine va_sld (i := 1) hx hb hX hbl hbA hS (by show ¬ (_ ∨ _); decide) dL_law_1254 ?_
      refine lv_fixi (y := (xs 1)) rfl ?_
      refine lv_aload_n hx hb dL_law_1255 rfl (lv_at hl 3 rfl) ?_
      refine lv_pc (q := 1256) rfl ?_
      refine lv_iload_n hx hb dL_law_1256 rfl (lv_at hl 0 rfl) ?_
      refine lv_iconst (v := 2) hx hb dL_law_1257 (by decide) ?_
      refine lv_iadd hx hb dL_law_1258 ?_
      refine lv_fixi (y := 2) (by decide) ?_
      refine va_sld (i := 2) hx hb hX hbl hbA hS (by show ¬ (_ ∨ _); decide) dL_law_1259 ?_
      refine lv_fixi (y := (xs 2)) rfl ?_
      refine lv_aload_n hx hb dL_law_1260 rfl (lv_at hl 3 rfl) ?_
      refine lv_iload_n hx hb dL_law_1261 rfl (lv_at hl 0 rfl) ?_
      refine lv_pc (q := 1262) rfl ?_
      refine lv_iconst (v := 3) hx hb dL_law_1262 (by decide) ?_
      refine lv_iadd hx hb dL_law_1263 ?_
      refine lv_fixi (y := 3) (by decide) ?_
      refine va_sld (i := 3) hx hb hX hbl hbA hS (by show ¬ (_ ∨ _); decide) dL_law_1264 ?_
      refine lv_fixi (y := (xs 3)) rfl ?_
      refine uVi (As := [.int (xs 1), .int (xs 2), .int (xs 3)]) (rest := [.int (-1)]) (wr := []) [(q9, .inr (12, [.int 0, .int 4, .int 4, .ref (u11 0), .ref (u11 1), .ref (u11 2), .ref (u11 3), .int 0, .ref (u11 4), .ref (u11 5), .int 0, .ref (u11 6), .ref (u11 7), .ref (u11 8), .ref (u11 9), .ref (u11 10), .ref (u11 11), .ref (u11 12), .int 0, .ref (u11 13), .ref (u11 14), .ref (u11 15), .ref (u11 16), .ref (u11 17), .ref (u11 18), .int 0, .ref (u11 19), .int 0, .int 0, .int 0, .ref (u11 20), .int 0, .int 0, .ref (u11 21), .int 0, .ref (u11 60), .ref (u11 22), .ref (u11 23), .ref (u11 24), .ref (u11 61), .ref (u11 25), .ref (u11 26), .ref (u11 62), .ref (u11 63), .ref (u11 64), .ref (u11 27), .ref (u11 28), .ref (u11 29), .ref (u11 30), .ref (u11 31), .ref (u11 32), .ref (u11 33), .ref (u11 34), .ref (u11 35), .ref (u11 36), .ref (u11 37), .ref (u11 38), .ref (u11 65), .int 0, .int 0, .int 0, .int 0, .int 0, .long 0, .int 0, .int 0, .int 0, .int 0, .int 0, .int (-1), .int 0, .ref (u11 39), .ref (u11 40), .ref (u11 41), .ref (u11 42), .ref (u11 43), .int 0, .int 0, .ref (u11 44), .ref (u11 45), .ref (u11 46), .ref (u11 47), .ref (u11 48), .ref (u11 49), .ref (u11 50), .ref (u11 51), .int 0, .int 0, .int 0, .int 0, .ref (u11 52), .ref (u11 53), .int 0, .ref (u11 54), .ref (u11 55), .ref (u11 56), .ref (u11 57), .ref (u11 58), .ref (u11 59)]))] B hl.1 hP hD hS [0] [] rfl rfl rfl (kX12_heard_155 l D K _ q9 (u11 0) (u11 1) (u11 2) (u11 3) (u11 4) (u11 5) (u11 6) (u11 7) (u11 8) (u11 9) (u11 10) (u11 11) (u11 12) (u11 13) (u11 14) (u11 15) (u11 16) (u11 17) (u11 18) (u11 19) (u11 20) (u11 21) (u11 60) (u11 22) (u11 23) (u11 24) (u11 61) (u11 25) (u11 26) (u11 62) (u11 63) (u11 64) (u11 27) (u11 28) (u11 29) (u11 30) (u11 31) (u11 32) (u11 33) (u11 34) (u11 35) (u11 36) (u11 37) (u11 38) (u11 65) (u11 39) (u11 40) (u11 41) (u11 42) (u11 43) (u11 44) (u11 45) (u11 46) (u11 47) (u11 48) (u11 49) (u11 50) (u11 51) (u11 52) (u11 53) (u11 54) (u11 55) (u11 56) (u11 57) (u11 58) (u11 59) (xs 1) (xs 2) (xs 3)) wd_X12_heard mml_L_126 rfl rfl rfl rfl ⟨Nat.le_of_ble_eq_true rfl, Nat.le_of_ble_eq_true rfl⟩ (Nat.le_of_ble_eq_true rfl) ⟨Nat.le_of_ble_eq_true rfl, Nat.le_of_ble_eq_true rfl⟩ dL_law_1265 (fun r349 u H locs hw hP hD hS => ?_)
      try dsimp only at hw
      rcases hw with rfl
      have hP : va_P D vwCl [] H := hP
      have hD : va_D A [] := hD
      refine lv_icmp_eq (tgt := 1474) hx hb dL_law_1268 (by decide) (fun _ => ?_) (fun h9 => absurd (by decide) h9)
      refine lv_iinc (v := 7) (lv' := [(3, .int 7), (2, .ref q9), (1, .ref q1), (0, .ref b)]) hx hb dL_law_1474 hl (k := 0) rfl (by decide) (by decide) rfl (fun ls hl => ?_)
      refine lv_pc (q := 1477) rfl ?_
      refine lv_goto (tgt := 18) hx hb dL_law_1477 (by decide) ?_
      refine lv_iload_n hx hb dL_law_18 rfl (lv_at hl 0 rfl) ?_
      refine lv_aload_n hx hb dL_law_19 rfl (lv_at hl 3 rfl) ?_
      refine va_slen hx hb hX hbl hbA hS dL_law_20 ?_
      refine lv_fixi (y := 7) (by decide) ?_
      refine lv_bipush (v := 7) hx hb dL_law_21 (by decide) ?_
      refine lv_isub hx hb dL_law_23 ?_
      refine lv_fixi (y := 0) (by decide) ?_
      refine lv_pc (q := 24) rfl ?_
      refine lv_icmp_gt (tgt := 1480) hx hb dL_law_24 (by decide) (fun _ => ?_) (fun h9 => absurd (by decide) h9)
      refine lv_iconst (v := 1) hx hb dL_law_1480 (by decide) ?_
      refine va_forget (fun q hq => by have h9 := hS.2.2 q hq; rw [hAe] at h9; exact h9) ?_
      refine W.widen (k := 600000) (n := 7302250) (by decide) (by decide) ?_
      exact lw_ret hx hb hr hlocks dL_law_1481
    · refine lv_fixi (y := 25) ejj ?_
      refine lv_tableIn (off := 1240) (tgt := 1273) hx hb dL_law_33 (by decide) (by decide) rfl (by decide) ?_
      replace hP := uSub (wc := [(q1, .inr (11, [.ref (u3 0), .ref (u3 7), .ref (u3 16), .ref (u3 17), .ref (u3 24), .ref (u3 27), .ref (u3 30), .ref (u3 33), .ref (u3 62), .ref (u3 77), .ref (u3 50)])), (u3 62, .inr (2, [.ref (u3 24), .ref (u3 50), .int 0, .int 0, .ref (u3 63), .ref (u3 64), .ref (u3 69), .ref (u3 70), .ref (u3 71), .ref (u3 72), .ref (u3 73), .ref (u3 74), .ref (u3 75), .ref (u3 76)])), (q9, .inr (12, [.int 0, .int 4, .int 4, .ref (u11 0), .ref (u11 1), .ref (u11 2), .ref (u11 3), .int 0, .ref (u11 4), .ref (u11 5), .int 0, .ref (u11 6), .ref (u11 7), .ref (u11 8), .ref (u11 9), .ref (u11 10), .ref (u11 11), .ref (u11 12), .int 0, .ref (u11 13), .ref (u11 14), .ref (u11 15), .ref (u11 16), .ref (u11 17), .ref (u11 18), .int 0, .ref (u11 19), .int 0, .int 0, .int 0, .ref (u11 20), .int 0, .int 0, .ref (u11 21), .int 0, .ref (u11 60), .ref (u11 22), .ref (u11 23), .ref (u11 24), .ref (u11 61), .ref (u11 25), .ref (u11 26), .ref (u11 62), .ref (u11 63), .ref (u11 64), .ref (u11 27), .ref (u11 28), .ref (u11 29), .ref (u11 30), .ref (u11 31), .ref (u11 32), .ref (u11 33), .ref (u11 34), .ref (u11 35), .ref (u11 36), .ref (u11 37), .ref (u11 38), .ref (u11 65), .int 0, .int 0, .int 0, .int 0, .int 0, .long 0, .int 0, .int 0, .int 0, .int 0, .int 0, .int (-1), .int 0, .ref (u11 39), .ref (u11 40), .ref (u11 41), .ref (u11 42), .ref (u11 43), .int 0, .int 0, .ref (u11 44), .ref (u11 45), .ref (u11 46), .ref (u11 47), .ref (u11 48), .ref (u11 49), .ref (u11 50), .ref (u11 51), .int 0, .int 0, .int 0, .int 0, .ref (u11 52), .ref (u11 53), .int 0, .ref (u11 54), .ref (u11 55), .ref (u11 56), .ref (u11 57), .ref (u11 58), .ref (u11 59)]))]) hP [0, 63, 97] rfl
      replace hD := hD.sub (ws' := [(q1, .inr (11, [.ref (u3 0), .ref (u3 7), .ref (u3 16), .ref (u3 17), .ref (u3 24), .ref (u3 27), .ref (u3 30), .ref (u3 33), .ref (u3 62), .ref (u3 77), .ref (u3 50)])), (u3 62, .inr (2, [.ref (u3 24), .ref (u3 50), .int 0, .int 0, .ref (u3 63), .ref (u3 64), .ref (u3 69), .ref (u3 70), .ref (u3 71), .ref (u3 72), .ref (u3 73), .ref (u3 74), .ref (u3 75), .ref (u3 76)])), (q9, .inr (12, [.int 0, .int 4, .int 4, .ref (u11 0), .ref (u11 1), .ref (u11 2), .ref (u11 3), .int 0, .ref (u11 4), .ref (u11 5), .int 0, .ref (u11 6), .ref (u11 7), .ref (u11 8), .ref (u11 9), .ref (u11 10), .ref (u11 11), .ref (u11 12), .int 0, .ref (u11 13), .ref (u11 14), .ref (u11 15), .ref (u11 16), .ref (u11 17), .ref (u11 18), .int 0, .ref (u11 19), .int 0, .int 0, .int 0, .ref (u11 20), .int 0, .int 0, .ref (u11 21), .int 0, .ref (u11 60), .ref (u11 22), .ref (u11 23), .ref (u11 24), .ref (u11 61), .ref (u11 25), .ref (u11 26), .ref (u11 62), .ref (u11 63), .ref (u11 64), .ref (u11 27), .ref (u11 28), .ref (u11 29), .ref (u11 30), .ref (u11 31), .ref (u11 32), .ref (u11 33), .ref (u11 34), .ref (u11 35), .ref (u11 36), .ref (u11 37), .ref (u11 38), .ref (u11 65), .int 0, .int 0, .int 0, .int 0, .int 0, .long 0, .int 0, .int 0, .int 0, .int 0, .int 0, .int (-1), .int 0, .ref (u11 39), .ref (u11 40), .ref (u11 41), .ref (u11 42), .ref (u11 43), .int 0, .int 0, .ref (u11 44), .ref (u11 45), .ref (u11 46), .ref (u11 47), .ref (u11 48), .ref (u11 49), .ref (u11 50), .ref (u11 51), .int 0, .int 0, .int 0, .int 0, .ref (u11 52), .ref (u11 53), .int 0, .ref (u11 54), .ref (u11 55), .ref (u11 56), .ref (u11 57), .ref (u11 58), .ref (u11 59)]))]) [0, 63, 97] rfl rfl
      refine lv_pc (q := 1273) rfl ?_
      refine lv_aload_n hx hb dL_law_1273 rfl (lv_at hl 2 rfl) ?_
      refine lv_aload_n hx hb dL_law_1274 rfl (lv_at hl 3 rfl) ?_
      refine lv_iload_n hx hb dL_law_1275 rfl (lv_at hl 0 rfl) ?_
      refine lv_iconst (v := 1) hx hb dL_law_1276 (by decide) ?_
      refine lv_iadd hx hb dL_law_1277 ?_
      refine lv_fixi (y := 1) (by decide) ?_
      refine va_sld (i := 1) hx hb hX hbl hbA hS (by show ¬ (_ ∨ _); decide) dL_law_1278 ?_
      refine lv_fixi (y := (xs 1)) rfl ?_
      refine lv_pc (q := 1279) rfl ?_
      refine uVi (As := [.int (xs 1)]) (rest := []) (wr := [(q9, .inr (12, [.int 0, .int 4, .int 4, .ref (u11 0), .ref (u11 1), .ref (u11 2), .ref (u11 3), .int 0, .ref (u11 4), .ref (u11 5), .int 0, .ref (u11 6), .ref (u11 7), .ref (u11 8), .ref (u11 9), .ref (u11 10), .ref (u11 11), .ref (u11 12), .int 0, .ref (u11 13), .ref (u11 14), .ref (u11 15), .ref (u11 16), .ref (u11 17), .ref (u11 18), .int 0, .ref (u11 19), .int 0, .int 0, .int 0, .ref (u11 20), .int 0, .int 0, .ref (u11 21), .int 0, .ref (u11 60), .ref (u11 22), .ref (u11 23), .ref (u11 24), .ref (u11 61), .ref (u11 25), .ref (u11 26), .ref (u11 62), .ref (u11 63), .ref (u11 64), .ref (u11 27), .ref (u11 28), .ref (u11 29), .ref (u11 30), .ref (u11 31), .ref (u11 32), .ref (u11 33), .ref (u11 34), .ref (u11 35), .ref (u11 36), .ref (u11 37), .ref (u11 38), .ref (u11 65), .int 0, .int 0, .int 0, .int 0, .int 0, .long 0, .int 0, .int 0, .int 0, .int 0, .int 0, .int (-1), .int 0, .ref (u11 39), .ref (u11 40), .ref (u11 41), .ref (u11 42), .ref (u11 43), .int 0, .int 0, .ref (u11 44), .ref (u11 45), .ref (u11 46), .ref (u11 47), .ref (u11 48), .ref (u11 49), .ref (u11 50), .ref (u11 51), .int 0, .int 0, .int 0, .int 0, .ref (u11 52), .ref (u11 53), .int 0, .ref (u11 54), .ref (u11 55), .ref (u11 56), .ref (u11 57), .ref (u11 58), .ref (u11 59)]))]) [(q1, .inr (11, [.ref (u3 0), .ref (u3 7), .ref (u3 16), .ref (u3 17), .ref (u3 24), .ref (u3 27), .ref (u3 30), .ref (u3 33), .ref (u3 62), .ref (u3 77), .ref (u3 50)])), (u3 62, .inr (2, [.ref (u3 24), .ref (u3 50), .int 0, .int 0, .ref (u3 63), .ref (u3 64), .ref (u3 69), .ref (u3 70), .ref (u3 71), .ref (u3 72), .ref (u3 73), .ref (u3 74), .ref (u3 75), .ref (u3 76)]))] B hl.1 hP hD hS [0, 1] [2] rfl rfl rfl (kX11_sent_156 l D K _ q1 (u3 62) (u3 0) (u3 7) (u3 16) (u3 17) (u3 24) (u3 27) (u3 30) (u3 33) (u3 77) (u3 50) (u3 63) (u3 64) (u3 69) (u3 70) (u3 71) (u3 72) (u3 73) (u3 74) (u3 75) (u3 76) (xs 1)) wd_X11_sent mml_L_127 rfl rfl rfl rfl ⟨Nat.le_of_ble_eq_true rfl, Nat.le_of_ble_eq_true rfl⟩ (Nat.le_of_ble_eq_true rfl) ⟨Nat.le_of_ble_eq_true rfl, Nat.le_of_ble_eq_true rfl⟩ dL_law_1279 (fun r350 u H locs hw hP hD hS => ?_)
      try dsimp only at hw
      rcases hw with rfl
      have hP : va_P D vwCl [(q9, .inr (12, [.int 0, .int 4, .int 4, .ref (u11 0), .ref (u11 1), .ref (u11 2), .ref (u11 3), .int 0, .ref (u11 4), .ref (u11 5), .int 0, .ref (u11 6), .ref (u11 7), .ref (u11 8), .ref (u11 9), .ref (u11 10), .ref (u11 11), .ref (u11 12), .int 0, .ref (u11 13), .ref (u11 14), .ref (u11 15), .ref (u11 16), .ref (u11 17), .ref (u11 18), .int 0, .ref (u11 19), .int 0, .int 0, .int 0, .ref (u11 20), .int 0, .int 0, .ref (u11 21), .int 0, .ref (u11 60), .ref (u11 22), .ref (u11 23), .ref (u11 24), .ref (u11 61), .ref (u11 25), .ref (u11 26), .ref (u11 62), .ref (u11 63), .ref (u11 64), .ref (u11 27), .ref (u11 28), .ref (u11 29), .ref (u11 30), .ref (u11 31), .ref (u11 32), .ref (u11 33), .ref (u11 34), .ref (u11 35), .ref (u11 36), .ref (u11 37), .ref (u11 38), .ref (u11 65), .int 0, .int 0, .int 0, .int 0, .int 0, .long 0, .int 0, .int 0, .int 0, .int 0, .int 0, .int (-1), .int 0, .ref (u11 39), .ref (u11 40), .ref (u11 41), .ref (u11 42), .ref (u11 43), .int 0, .int 0, .ref (u11 44), .ref (u11 45), .ref (u11 46), .ref (u11 47), .ref (u11 48), .ref (u11 49), .ref (u11 50), .ref (u11 51), .int 0, .int 0, .int 0, .int 0, .ref (u11 52), .ref (u11 53), .int 0, .ref (u11 54), .ref (u11 55), .ref (u11 56), .ref (u11 57), .ref (u11 58), .ref (u11 59)]))] H := hP
      have hD : va_D A [(q9, .inr (12, [.int 0, .int 4, .int 4, .ref (u11 0), .ref (u11 1), .ref (u11 2), .ref (u11 3), .int 0, .ref (u11 4), .ref (u11 5), .int 0, .ref (u11 6), .ref (u11 7), .ref (u11 8), .ref (u11 9), .ref (u11 10), .ref (u11 11), .ref (u11 12), .int 0, .ref (u11 13), .ref (u11 14), .ref (u11 15), .ref (u11 16), .ref (u11 17), .ref (u11 18), .int 0, .ref (u11 19), .int 0, .int 0, .int 0, .ref (u11 20), .int 0, .int 0, .ref (u11 21), .int 0, .ref (u11 60), .ref (u11 22), .ref (u11 23), .ref (u11 24), .ref (u11 61), .ref (u11 25), .ref (u11 26), .ref (u11 62), .ref (u11 63), .ref (u11 64), .ref (u11 27), .ref (u11 28), .ref (u11 29), .ref (u11 30), .ref (u11 31), .ref (u11 32), .ref (u11 33), .ref (u11 34), .ref (u11 35), .ref (u11 36), .ref (u11 37), .ref (u11 38), .ref (u11 65), .int 0, .int 0, .int 0, .int 0, .int 0, .long 0, .int 0, .int 0, .int 0, .int 0, .int 0, .int (-1), .int 0, .ref (u11 39), .ref (u11 40), .ref (u11 41), .ref (u11 42), .ref (u11 43), .int 0, .int 0, .ref (u11 44), .ref (u11 45), .ref (u11 46), .ref (u11 47), .ref (u11 48), .ref (u11 49), .ref (u11 50), .ref (u11 51), .int 0, .int 0, .int 0, .int 0, .ref (u11 52), .ref (u11 53), .int 0, .ref (u11 54), .ref (u11 55), .ref (u11 56), .ref (u11 57), .ref (u11 58), .ref (u11 59)]))] := hD
      refine lv_aload_n hx hb dL_law_1282 rfl (lv_at hl 1 rfl) ?_
      refine lv_aload_n hx hb dL_law_1283 rfl (lv_at hl 3 rfl) ?_
      refine lv_iload_n hx hb dL_law_1284 rfl (lv_at hl 0 rfl) ?_
      refine lv_iconst (v := 1) hx hb dL_law_1285 (by decide) ?_
      refine lv_iadd hx hb dL_law_1286 ?_
      refine lv_fixi (y := 1) (by decide) ?_
      refine lv_pc (q := 1287) rfl ?_
      refine va_sld (i := 1) hx hb hX hbl hbA hS (by show ¬ (_ ∨ _); decide) dL_law_1287 ?_
      refine lv_fixi (y := (xs 1)) rfl ?_
      refine uVi (As := [.int (xs 1)]) (rest := [.int (-1)]) (wr := []) [(q9, .inr (12, [.int 0, .int 4, .int 4, .ref (u11 0), .ref (u11 1), .ref (u11 2), .ref (u11 3), .int 0, .ref (u11 4), .ref (u11 5), .int 0, .ref (u11 6), .ref (u11 7), .ref (u11 8), .ref (u11 9), .ref (u11 10), .ref (u11 11), .ref (u11 12), .int 0, .ref (u11 13), .ref (u11 14), .ref (u11 15), .ref (u11 16), .ref (u11 17), .ref (u11 18), .int 0, .ref (u11 19), .int 0, .int 0, .int 0, .ref (u11 20), .int 0, .int 0, .ref (u11 21), .int 0, .ref (u11 60), .ref (u11 22), .ref (u11 23), .ref (u11 24), .ref (u11 61), .ref (u11 25), .ref (u11 26), .ref (u11 62), .ref (u11 63), .ref (u11 64), .ref (u11 27), .ref (u11 28), .ref (u11 29), .ref (u11 30), .ref (u11 31), .ref (u11 32), .ref (u11 33), .ref (u11 34), .ref (u11 35), .ref (u11 36), .ref (u11 37), .ref (u11 38), .ref (u11 65), .int 0, .int 0, .int 0, .int 0, .int 0, .long 0, .int 0, .int 0, .int 0, .int 0, .int 0, .int (-1), .int 0, .ref (u11 39), .ref (u11 40), .ref (u11 41), .ref (u11 42), .ref (u11 43), .int 0, .int 0, .ref (u11 44), .ref (u11 45), .ref (u11 46), .ref (u11 47), .ref (u11 48), .ref (u11 49), .ref (u11 50), .ref (u11 51), .int 0, .int 0, .int 0, .int 0, .ref (u11 52), .ref (u11 53), .int 0, .ref (u11 54), .ref (u11 55), .ref (u11 56), .ref (u11 57), .ref (u11 58), .ref (u11 59)]))] B hl.1 hP hD hS [0] [] rfl rfl rfl (kX12_sent_157 l D K _ q9 (u11 0) (u11 1) (u11 2) (u11 3) (u11 4) (u11 5) (u11 6) (u11 7) (u11 8) (u11 9) (u11 10) (u11 11) (u11 12) (u11 13) (u11 14) (u11 15) (u11 16) (u11 17) (u11 18) (u11 19) (u11 20) (u11 21) (u11 60) (u11 22) (u11 23) (u11 24) (u11 61) (u11 25) (u11 26) (u11 62) (u11 63) (u11 64) (u11 27) (u11 28) (u11 29) (u11 30) (u11 31) (u11 32) (u11 33) (u11 34) (u11 35) (u11 36) (u11 37) (u11 38) (u11 65) (u11 39) (u11 40) (u11 41) (u11 42) (u11 43) (u11 44) (u11 45) (u11 46) (u11 47) (u11 48) (u11 49) (u11 50) (u11 51) (u11 52) (u11 53) (u11 54) (u11 55) (u11 56) (u11 57) (u11 58) (u11 59) (xs 1)) wd_X12_sent mml_L_130 rfl rfl rfl rfl ⟨Nat.le_of_ble_eq_true rfl, Nat.le_of_ble_eq_true rfl⟩ (Nat.le_of_ble_eq_true rfl) ⟨Nat.le_of_ble_eq_true rfl, Nat.le_of_ble_eq_true rfl⟩ dL_law_1288 (fun r351 u H locs hw hP hD hS => ?_)
      try dsimp only at hw
      rcases hw with rfl
      have hP : va_P D vwCl [] H := hP
      have hD : va_D A [] := hD
      refine lv_icmp_eq (tgt := 1474) hx hb dL_law_1291 (by decide) (fun _ => ?_) (fun h9 => absurd (by decide) h9)
      refine lv_iinc (v := 7) (lv' := [(3, .int 7), (2, .ref q9), (1, .ref q1), (0, .ref b)]) hx hb dL_law_1474 hl (k := 0) rfl (by decide) (by decide) rfl (fun ls hl => ?_)
      refine lv_goto (tgt := 18) hx hb dL_law_1477 (by decide) ?_
      refine lv_iload_n hx hb dL_law_18 rfl (lv_at hl 0 rfl) ?_
      refine lv_pc (q := 19) rfl ?_
      refine lv_aload_n hx hb dL_law_19 rfl (lv_at hl 3 rfl) ?_
      refine va_slen hx hb hX hbl hbA hS dL_law_20 ?_
      refine lv_fixi (y := 7) (by decide) ?_
      refine lv_bipush (v := 7) hx hb dL_law_21 (by decide) ?_
      refine lv_isub hx hb dL_law_23 ?_
      refine lv_fixi (y := 0) (by decide) ?_
      refine lv_icmp_gt (tgt := 1480) hx hb dL_law_24 (by decide) (fun _ => ?_) (fun h9 => absurd (by decide) h9)
      refine lv_iconst (v := 1) hx hb dL_law_1480 (by decide) ?_
      refine lv_pc (q := 1481) rfl ?_
      refine va_forget (fun q hq => by have h9 := hS.2.2 q hq; rw [hAe] at h9; exact h9) ?_
      refine W.widen (k := 600000) (n := 7302250) (by decide) (by decide) ?_
      exact lw_ret hx hb hr hlocks dL_law_1481
    · refine lv_fixi (y := 26) ejj ?_
      refine lv_tableIn (off := 1263) (tgt := 1296) hx hb dL_law_33 (by decide) (by decide) rfl (by decide) ?_
      replace hP := uSub (wc := [(q1, .inr (11, [.ref (u3 0), .ref (u3 7), .ref (u3 16), .ref (u3 17), .ref (u3 24), .ref (u3 27), .ref (u3 30), .ref (u3 33), .ref (u3 62), .ref (u3 77), .ref (u3 50)])), (u3 7, .inr (4, [.ref (u3 0), .ref (u3 8), .ref (u3 9), .ref (u3 10), .ref (u3 11), .ref (u3 12), .ref (u3 13), .ref (u3 14), .ref (u3 15), .int 0])), (q9, .inr (12, [.int 0, .int 4, .int 4, .ref (u11 0), .ref (u11 1), .ref (u11 2), .ref (u11 3), .int 0, .ref (u11 4), .ref (u11 5), .int 0, .ref (u11 6), .ref (u11 7), .ref (u11 8), .ref (u11 9), .ref (u11 10), .ref (u11 11), .ref (u11 12), .int 0, .ref (u11 13), .ref (u11 14), .ref (u11 15), .ref (u11 16), .ref (u11 17), .ref (u11 18), .int 0, .ref (u11 19), .int 0, .int 0, .int 0, .ref (u11 20), .int 0, .int 0, .ref (u11 21), .int 0, .ref (u11 60), .ref (u11 22), .ref (u11 23), .ref (u11 24), .ref (u11 61), .ref (u11 25), .ref (u11 26), .ref (u11 62), .ref (u11 63), .ref (u11 64), .ref (u11 27), .ref (u11 28), .ref (u11 29), .ref (u11 30), .ref (u11 31), .ref (u11 32), .ref (u11 33), .ref (u11 34), .ref (u11 35), .ref (u11 36), .ref (u11 37), .ref (u11 38), .ref (u11 65), .int 0, .int 0, .int 0, .int 0, .int 0, .long 0, .int 0, .int 0, .int 0, .int 0, .int 0, .int (-1), .int 0, .ref (u11 39), .ref (u11 40), .ref (u11 41), .ref (u11 42), .ref (u11 43), .int 0, .int 0, .ref (u11 44), .ref (u11 45), .ref (u11 46), .ref (u11 47), .ref (u11 48), .ref (u11 49), .ref (u11 50), .ref (u11 51), .int 0, .int 0, .int 0, .int 0, .ref (u11 52), .ref (u11 53), .int 0, .ref (u11 54), .ref (u11 55), .ref (u11 56), .ref (u11 57), .ref (u11 58), .ref (u11 59)]))]) hP [0, 8, 97] rfl
      replace hD := hD.sub (ws' := [(q1, .inr (11, [.ref (u3 0), .ref (u3 7), .ref (u3 16), .ref (u3 17), .ref (u3 24), .ref (u3 27), .ref (u3 30), .ref (u3 33), .ref (u3 62), .ref (u3 77), .ref (u3 50)])), (u3 7, .inr (4, [.ref (u3 0), .ref (u3 8), .ref (u3 9), .ref (u3 10), .ref (u3 11), .ref (u3 12), .ref (u3 13), .ref (u3 14), .ref (u3 15), .int 0])), (q9, .inr (12, [.int 0, .int 4, .int 4, .ref (u11 0), .ref (u11 1), .ref (u11 2), .ref (u11 3), .int 0, .ref (u11 4), .ref (u11 5), .int 0, .ref (u11 6), .ref (u11 7), .ref (u11 8), .ref (u11 9), .ref (u11 10), .ref (u11 11), .ref (u11 12), .int 0, .ref (u11 13), .ref (u11 14), .ref (u11 15), .ref (u11 16), .ref (u11 17), .ref (u11 18), .int 0, .ref (u11 19), .int 0, .int 0, .int 0, .ref (u11 20), .int 0, .int 0, .ref (u11 21), .int 0, .ref (u11 60), .ref (u11 22), .ref (u11 23), .ref (u11 24), .ref (u11 61), .ref (u11 25), .ref (u11 26), .ref (u11 62), .ref (u11 63), .ref (u11 64), .ref (u11 27), .ref (u11 28), .ref (u11 29), .ref (u11 30), .ref (u11 31), .ref (u11 32), .ref (u11 33), .ref (u11 34), .ref (u11 35), .ref (u11 36), .ref (u11 37), .ref (u11 38), .ref (u11 65), .int 0, .int 0, .int 0, .int 0, .int 0, .long 0, .int 0, .int 0, .int 0, .int 0, .int 0, .int (-1), .int 0, .ref (u11 39), .ref (u11 40), .ref (u11 41), .ref (u11 42), .ref (u11 43), .int 0, .int 0, .ref (u11 44), .ref (u11 45), .ref (u11 46), .ref (u11 47), .ref (u11 48), .ref (u11 49), .ref (u11 50), .ref (u11 51), .int 0, .int 0, .int 0, .int 0, .ref (u11 52), .ref (u11 53), .int 0, .ref (u11 54), .ref (u11 55), .ref (u11 56), .ref (u11 57), .ref (u11 58), .ref (u11 59)]))]) [0, 8, 97] rfl rfl
      refine lv_pc (q := 1296) rfl ?_
      refine lv_aload_n hx hb dL_law_1296 rfl (lv_at hl 2 rfl) ?_
      refine lv_aload_n hx hb dL_law_1297 rfl (lv_at hl 3 rfl) ?_
      refine lv_iload_n hx hb dL_law_1298 rfl (lv_at hl 0 rfl) ?_
      refine lv_iconst (v := 1) hx hb dL_law_1299 (by decide) ?_
      refine lv_iadd hx hb dL_law_1300 ?_
      refine lv_fixi (y := 1) (by decide) ?_
      refine va_sld (i := 1) hx hb hX hbl hbA hS (by show ¬ (_ ∨ _); decide) dL_law_1301 ?_
      refine lv_fixi (y := (xs 1)) rfl ?_
      refine lv_pc (q := 1302) rfl ?_
      refine lv_aload_n hx hb dL_law_1302 rfl (lv_at hl 3 rfl) ?_
      refine lv_iload_n hx hb dL_law_1303 rfl (lv_at hl 0 rfl) ?_
      refine lv_iconst (v := 2) hx hb dL_law_1304 (by decide) ?_
      refine lv_iadd hx hb dL_law_1305 ?_
      refine lv_fixi (y := 2) (by decide) ?_
      refine va_sld (i := 2) hx hb hX hbl hbA hS (by show ¬ (_ ∨ _); decide) dL_law_1306 ?_
      refine lv_fixi (y := (xs 2)) rfl ?_
      refine uVi (As := [.int (xs 1), .int (xs 2)]) (rest := []) (wr := [(q9, .inr (12, [.int 0, .int 4, .int 4, .ref (u11 0), .ref (u11 1), .ref (u11 2), .ref (u11 3), .int 0, .ref (u11 4), .ref (u11 5), .int 0, .ref (u11 6), .ref (u11 7), .ref (u11 8), .ref (u11 9), .ref (u11 10), .ref (u11 11), .ref (u11 12), .int 0, .ref (u11 13), .ref (u11 14), .ref (u11 15), .ref (u11 16), .ref (u11 17), .ref (u11 18), .int 0, .ref (u11 19), .int 0, .int 0, .int 0, .ref (u11 20), .int 0, .int 0, .ref (u11 21), .int 0, .ref (u11 60), .ref (u11 22), .ref (u11 23), .ref (u11 24), .ref (u11 61), .ref (u11 25), .ref (u11 26), .ref (u11 62), .ref (u11 63), .ref (u11 64), .ref (u11 27), .ref (u11 28), .ref (u11 29), .ref (u11 30), .ref (u11 31), .ref (u11 32), .ref (u11 33), .ref (u11 34), .ref (u11 35), .ref (u11 36), .ref (u11 37), .ref (u11 38), .ref (u11 65), .int 0, .int 0, .int 0, .int 0, .int 0, .long 0, .int 0, .int 0, .int 0, .int 0, .int 0, .int (-1), .int 0, .ref (u11 39), .ref (u11 40), .ref (u11 41), .ref (u11 42), .ref (u11 43), .int 0, .int 0, .ref (u11 44), .ref (u11 45), .ref (u11 46), .ref (u11 47), .ref (u11 48), .ref (u11 49), .ref (u11 50), .ref (u11 51), .int 0, .int 0, .int 0, .int 0, .ref (u11 52), .ref (u11 53), .int 0, .ref (u11 54), .ref (u11 55), .ref (u11 56), .ref (u11 57), .ref (u11 58), .ref (u11 59)]))]) [(q1, .inr (11, [.ref (u3 0), .ref (u3 7), .ref (u3 16), .ref (u3 17), .ref (u3 24), .ref (u3 27), .ref (u3 30), .ref (u3 33), .ref (u3 62), .ref (u3 77), .ref (u3 50)])), (u3 7, .inr (4, [.ref (u3 0), .ref (u3 8), .ref (u3 9), .ref (u3 10), .ref (u3 11), .ref (u3 12), .ref (u3 13), .ref (u3 14), .ref (u3 15), .int 0]))] B hl.1 hP hD hS [0, 1] [2] rfl rfl rfl (kX11_way_158 l D K _ q1 (u3 7) (u3 0) (u3 16) (u3 17) (u3 24) (u3 27) (u3 30) (u3 33) (u3 62) (u3 77) (u3 50) (u3 8) (u3 9) (u3 10) (u3 11) (u3 12) (u3 13) (u3 14) (u3 15) (xs 1) (xs 2)) wd_X11_way mml_L_131 rfl rfl rfl rfl ⟨Nat.le_of_ble_eq_true rfl, Nat.le_of_ble_eq_true rfl⟩ (Nat.le_of_ble_eq_true rfl) ⟨Nat.le_of_ble_eq_true rfl, Nat.le_of_ble_eq_true rfl⟩ dL_law_1307 (fun r352 u H locs hw hP hD hS => ?_)
      try dsimp only at hw
      rcases hw with ⟨rfl, w353⟩
      have hP : va_P D vwCl [(q9, .inr (12, [.int 0, .int 4, .int 4, .ref (u11 0), .ref (u11 1), .ref (u11 2), .ref (u11 3), .int 0, .ref (u11 4), .ref (u11 5), .int 0, .ref (u11 6), .ref (u11 7), .ref (u11 8), .ref (u11 9), .ref (u11 10), .ref (u11 11), .ref (u11 12), .int 0, .ref (u11 13), .ref (u11 14), .ref (u11 15), .ref (u11 16), .ref (u11 17), .ref (u11 18), .int 0, .ref (u11 19), .int 0, .int 0, .int 0, .ref (u11 20), .int 0, .int 0, .ref (u11 21), .int 0, .ref (u11 60), .ref (u11 22), .ref (u11 23), .ref (u11 24), .ref (u11 61), .ref (u11 25), .ref (u11 26), .ref (u11 62), .ref (u11 63), .ref (u11 64), .ref (u11 27), .ref (u11 28), .ref (u11 29), .ref (u11 30), .ref (u11 31), .ref (u11 32), .ref (u11 33), .ref (u11 34), .ref (u11 35), .ref (u11 36), .ref (u11 37), .ref (u11 38), .ref (u11 65), .int 0, .int 0, .int 0, .int 0, .int 0, .long 0, .int 0, .int 0, .int 0, .int 0, .int 0, .int (-1), .int 0, .ref (u11 39), .ref (u11 40), .ref (u11 41), .ref (u11 42), .ref (u11 43), .int 0, .int 0, .ref (u11 44), .ref (u11 45), .ref (u11 46), .ref (u11 47), .ref (u11 48), .ref (u11 49), .ref (u11 50), .ref (u11 51), .int 0, .int 0, .int 0, .int 0, .ref (u11 52), .ref (u11 53), .int 0, .ref (u11 54), .ref (u11 55), .ref (u11 56), .ref (u11 57), .ref (u11 58), .ref (u11 59)]))] H := hP
      have hD : va_D A [(q9, .inr (12, [.int 0, .int 4, .int 4, .ref (u11 0), .ref (u11 1), .ref (u11 2), .ref (u11 3), .int 0, .ref (u11 4), .ref (u11 5), .int 0, .ref (u11 6), .ref (u11 7), .ref (u11 8), .ref (u11 9), .ref (u11 10), .ref (u11 11), .ref (u11 12), .int 0, .ref (u11 13), .ref (u11 14), .ref (u11 15), .ref (u11 16), .ref (u11 17), .ref (u11 18), .int 0, .ref (u11 19), .int 0, .int 0, .int 0, .ref (u11 20), .int 0, .int 0, .ref (u11 21), .int 0, .ref (u11 60), .ref (u11 22), .ref (u11 23), .ref (u11 24), .ref (u11 61), .ref (u11 25), .ref (u11 26), .ref (u11 62), .ref (u11 63), .ref (u11 64), .ref (u11 27), .ref (u11 28), .ref (u11 29), .ref (u11 30), .ref (u11 31), .ref (u11 32), .ref (u11 33), .ref (u11 34), .ref (u11 35), .ref (u11 36), .ref (u11 37), .ref (u11 38), .ref (u11 65), .int 0, .int 0, .int 0, .int 0, .int 0, .long 0, .int 0, .int 0, .int 0, .int 0, .int 0, .int (-1), .int 0, .ref (u11 39), .ref (u11 40), .ref (u11 41), .ref (u11 42), .ref (u11 43), .int 0, .int 0, .ref (u11 44), .ref (u11 45), .ref (u11 46), .ref (u11 47), .ref (u11 48), .ref (u11 49), .ref (u11 50), .ref (u11 51), .int 0, .int 0, .int 0, .int 0, .ref (u11 52), .ref (u11 53), .int 0, .ref (u11 54), .ref (u11 55), .ref (u11 56), .ref (u11 57), .ref (u11 58), .ref (u11 59)]))] := hD
      refine lv_pc (q := 1310) rfl ?_
      refine lv_aload_n hx hb dL_law_1310 rfl (lv_at hl 1 rfl) ?_
      refine lv_aload_n hx hb dL_law_1311 rfl (lv_at hl 3 rfl) ?_
      refine lv_iload_n hx hb dL_law_1312 rfl (lv_at hl 0 rfl) ?_
      refine lv_iconst (v := 1) hx hb dL_law_1313 (by decide) ?_
      refine lv_iadd hx hb dL_law_1314 ?_
      refine lv_fixi (y := 1) (by decide) ?_
      refine va_sld (i := 1) hx hb hX hbl hbA hS (by show ¬ (_ ∨ _); decide) dL_law_1315 ?_
      refine lv_fixi (y := (xs 1)) rfl ?_
      refine lv_pc (q := 1316) rfl ?_
      refine lv_aload_n hx hb dL_law_1316 rfl (lv_at hl 3 rfl) ?_
      refine lv_iload_n hx hb dL_law_1317 rfl (lv_at hl 0 rfl) ?_
      refine lv_iconst (v := 2) hx hb dL_law_1318 (by decide) ?_
      refine lv_iadd hx hb dL_law_1319 ?_
      refine lv_fixi (y := 2) (by decide) ?_
      refine va_sld (i := 2) hx hb hX hbl hbA hS (by show ¬ (_ ∨ _); decide) dL_law_1320 ?_
      refine lv_fixi (y := (xs 2)) rfl ?_
      refine uVi (As := [.int (xs 1), .int (xs 2)]) (rest := [.int (-1)]) (wr := []) [(q9, .inr (12, [.int 0, .int 4, .int 4, .ref (u11 0), .ref (u11 1), .ref (u11 2), .ref (u11 3), .int 0, .ref (u11 4), .ref (u11 5), .int 0, .ref (u11 6), .ref (u11 7), .ref (u11 8), .ref (u11 9), .ref (u11 10), .ref (u11 11), .ref (u11 12), .int 0, .ref (u11 13), .ref (u11 14), .ref (u11 15), .ref (u11 16), .ref (u11 17), .ref (u11 18), .int 0, .ref (u11 19), .int 0, .int 0, .int 0, .ref (u11 20), .int 0, .int 0, .ref (u11 21), .int 0, .ref (u11 60), .ref (u11 22), .ref (u11 23), .ref (u11 24), .ref (u11 61), .ref (u11 25), .ref (u11 26), .ref (u11 62), .ref (u11 63), .ref (u11 64), .ref (u11 27), .ref (u11 28), .ref (u11 29), .ref (u11 30), .ref (u11 31), .ref (u11 32), .ref (u11 33), .ref (u11 34), .ref (u11 35), .ref (u11 36), .ref (u11 37), .ref (u11 38), .ref (u11 65), .int 0, .int 0, .int 0, .int 0, .int 0, .long 0, .int 0, .int 0, .int 0, .int 0, .int 0, .int (-1), .int 0, .ref (u11 39), .ref (u11 40), .ref (u11 41), .ref (u11 42), .ref (u11 43), .int 0, .int 0, .ref (u11 44), .ref (u11 45), .ref (u11 46), .ref (u11 47), .ref (u11 48), .ref (u11 49), .ref (u11 50), .ref (u11 51), .int 0, .int 0, .int 0, .int 0, .ref (u11 52), .ref (u11 53), .int 0, .ref (u11 54), .ref (u11 55), .ref (u11 56), .ref (u11 57), .ref (u11 58), .ref (u11 59)]))] B hl.1 hP hD hS [0] [] rfl rfl rfl (kX12_way_159 l D K _ q9 (u11 0) (u11 1) (u11 2) (u11 3) (u11 4) (u11 5) (u11 6) (u11 7) (u11 8) (u11 9) (u11 10) (u11 11) (u11 12) (u11 13) (u11 14) (u11 15) (u11 16) (u11 17) (u11 18) (u11 19) (u11 20) (u11 21) (u11 60) (u11 22) (u11 23) (u11 24) (u11 61) (u11 25) (u11 26) (u11 62) (u11 63) (u11 64) (u11 27) (u11 28) (u11 29) (u11 30) (u11 31) (u11 32) (u11 33) (u11 34) (u11 35) (u11 36) (u11 37) (u11 38) (u11 65) (u11 39) (u11 40) (u11 41) (u11 42) (u11 43) (u11 44) (u11 45) (u11 46) (u11 47) (u11 48) (u11 49) (u11 50) (u11 51) (u11 52) (u11 53) (u11 54) (u11 55) (u11 56) (u11 57) (u11 58) (u11 59) (xs 1) (xs 2)) wd_X12_way mml_L_134 rfl rfl rfl rfl ⟨Nat.le_of_ble_eq_true rfl, Nat.le_of_ble_eq_true rfl⟩ (Nat.le_of_ble_eq_true rfl) ⟨Nat.le_of_ble_eq_true rfl, Nat.le_of_ble_eq_true rfl⟩ dL_law_1321 (fun r354 u H locs hw hP hD hS => ?_)
      try dsimp only at hw
      rcases hw with ⟨rfl, w355⟩
      have hP : va_P D vwCl [] H := hP
      have hD : va_D A [] := hD
      refine lv_pc (q := 1324) rfl ?_
      refine lv_icmp_eq (tgt := 1474) hx hb dL_law_1324 (by decide) (fun _ => ?_) (fun h9 => absurd (by decide) h9)
      refine lv_iinc (v := 7) (lv' := [(3, .int 7), (2, .ref q9), (1, .ref q1), (0, .ref b)]) hx hb dL_law_1474 hl (k := 0) rfl (by decide) (by decide) rfl (fun ls hl => ?_)
      refine lv_goto (tgt := 18) hx hb dL_law_1477 (by decide) ?_
      refine lv_iload_n hx hb dL_law_18 rfl (lv_at hl 0 rfl) ?_
      refine lv_aload_n hx hb dL_law_19 rfl (lv_at hl 3 rfl) ?_
      refine va_slen hx hb hX hbl hbA hS dL_law_20 ?_
      refine lv_fixi (y := 7) (by decide) ?_
      refine lv_pc (q := 21) rfl ?_
      refine lv_bipush (v := 7) hx hb dL_law_21 (by decide) ?_
      refine lv_isub hx hb dL_law_23 ?_
      refine lv_fixi (y := 0) (by decide) ?_
      refine lv_icmp_gt (tgt := 1480) hx hb dL_law_24 (by decide) (fun _ => ?_) (fun h9 => absurd (by decide) h9)
      refine lv_iconst (v := 1) hx hb dL_law_1480 (by decide) ?_
      refine va_forget (fun q hq => by have h9 := hS.2.2 q hq; rw [hAe] at h9; exact h9) ?_
      refine W.widen (k := 600000) (n := 7302250) (by decide) (by decide) ?_
      exact lw_ret hx hb hr hlocks dL_law_1481
    · refine lv_fixi (y := 27) ejj ?_
      refine lv_tableIn (off := 1296) (tgt := 1329) hx hb dL_law_33 (by decide) (by decide) rfl (by decide) ?_
      replace hP := uSub (wc := [(q1, .inr (11, [.ref (u3 0), .ref (u3 7), .ref (u3 16), .ref (u3 17), .ref (u3 24), .ref (u3 27), .ref (u3 30), .ref (u3 33), .ref (u3 62), .ref (u3 77), .ref (u3 50)])), (u3 7, .inr (4, [.ref (u3 0), .ref (u3 8), .ref (u3 9), .ref (u3 10), .ref (u3 11), .ref (u3 12), .ref (u3 13), .ref (u3 14), .ref (u3 15), .int 0])), (q9, .inr (12, [.int 0, .int 4, .int 4, .ref (u11 0), .ref (u11 1), .ref (u11 2), .ref (u11 3), .int 0, .ref (u11 4), .ref (u11 5), .int 0, .ref (u11 6), .ref (u11 7), .ref (u11 8), .ref (u11 9), .ref (u11 10), .ref (u11 11), .ref (u11 12), .int 0, .ref (u11 13), .ref (u11 14), .ref (u11 15), .ref (u11 16), .ref (u11 17), .ref (u11 18), .int 0, .ref (u11 19), .int 0, .int 0, .int 0, .ref (u11 20), .int 0, .int 0, .ref (u11 21), .int 0, .ref (u11 60), .ref (u11 22), .ref (u11 23), .ref (u11 24), .ref (u11 61), .ref (u11 25), .ref (u11 26), .ref (u11 62), .ref (u11 63), .ref (u11 64), .ref (u11 27), .ref (u11 28), .ref (u11 29), .ref (u11 30), .ref (u11 31), .ref (u11 32), .ref (u11 33), .ref (u11 34), .ref (u11 35), .ref (u11 36), .ref (u11 37), .ref (u11 38), .ref (u11 65), .int 0, .int 0, .int 0, .int 0, .int 0, .long 0, .int 0, .int 0, .int 0, .int 0, .int 0, .int (-1), .int 0, .ref (u11 39), .ref (u11 40), .ref (u11 41), .ref (u11 42), .ref (u11 43), .int 0, .int 0, .ref (u11 44), .ref (u11 45), .ref (u11 46), .ref (u11 47), .ref (u11 48), .ref (u11 49), .ref (u11 50), .ref (u11 51), .int 0, .int 0, .int 0, .int 0, .ref (u11 52), .ref (u11 53), .int 0, .ref (u11 54), .ref (u11 55), .ref (u11 56), .ref (u11 57), .ref (u11 58), .ref (u11 59)]))]) hP [0, 8, 97] rfl
      replace hD := hD.sub (ws' := [(q1, .inr (11, [.ref (u3 0), .ref (u3 7), .ref (u3 16), .ref (u3 17), .ref (u3 24), .ref (u3 27), .ref (u3 30), .ref (u3 33), .ref (u3 62), .ref (u3 77), .ref (u3 50)])), (u3 7, .inr (4, [.ref (u3 0), .ref (u3 8), .ref (u3 9), .ref (u3 10), .ref (u3 11), .ref (u3 12), .ref (u3 13), .ref (u3 14), .ref (u3 15), .int 0])), (q9, .inr (12, [.int 0, .int 4, .int 4, .ref (u11 0), .ref (u11 1), .ref (u11 2), .ref (u11 3), .int 0, .ref (u11 4), .ref (u11 5), .int 0, .ref (u11 6), .ref (u11 7), .ref (u11 8), .ref (u11 9), .ref (u11 10), .ref (u11 11), .ref (u11 12), .int 0, .ref (u11 13), .ref (u11 14), .ref (u11 15), .ref (u11 16), .ref (u11 17), .ref (u11 18), .int 0, .ref (u11 19), .int 0, .int 0, .int 0, .ref (u11 20), .int 0, .int 0, .ref (u11 21), .int 0, .ref (u11 60), .ref (u11 22), .ref (u11 23), .ref (u11 24), .ref (u11 61), .ref (u11 25), .ref (u11 26), .ref (u11 62), .ref (u11 63), .ref (u11 64), .ref (u11 27), .ref (u11 28), .ref (u11 29), .ref (u11 30), .ref (u11 31), .ref (u11 32), .ref (u11 33), .ref (u11 34), .ref (u11 35), .ref (u11 36), .ref (u11 37), .ref (u11 38), .ref (u11 65), .int 0, .int 0, .int 0, .int 0, .int 0, .long 0, .int 0, .int 0, .int 0, .int 0, .int 0, .int (-1), .int 0, .ref (u11 39), .ref (u11 40), .ref (u11 41), .ref (u11 42), .ref (u11 43), .int 0, .int 0, .ref (u11 44), .ref (u11 45), .ref (u11 46), .ref (u11 47), .ref (u11 48), .ref (u11 49), .ref (u11 50), .ref (u11 51), .int 0, .int 0, .int 0, .int 0, .ref (u11 52), .ref (u11 53), .int 0, .ref (u11 54), .ref (u11 55), .ref (u11 56), .ref (u11 57), .ref (u11 58), .ref (u11 59)]))]) [0, 8, 97] rfl rfl
      refine lv_pc (q := 1329) rfl ?_
      refine lv_aload_n hx hb dL_law_1329 rfl (lv_at hl 2 rfl) ?_
      refine lv_aload_n hx hb dL_law_1330 rfl (lv_at hl 3 rfl) ?_
      refine lv_iload_n hx hb dL_law_1331 rfl (lv_at hl 0 rfl) ?_
      refine lv_iconst (v := 1) hx hb dL_law_1332 (by decide) ?_
      refine lv_iadd hx hb dL_law_1333 ?_
      refine lv_fixi (y := 1) (by decide) ?_
      refine va_sld (i := 1) hx hb hX hbl hbA hS (by show ¬ (_ ∨ _); decide) dL_law_1334 ?_
      refine lv_fixi (y := (xs 1)) rfl ?_
      refine lv_pc (q := 1335) rfl ?_
      refine lv_aload_n hx hb dL_law_1335 rfl (lv_at hl 3 rfl) ?_
      refine lv_iload_n hx hb dL_law_1336 rfl (lv_at hl 0 rfl) ?_
      refine lv_iconst (v := 2) hx hb dL_law_1337 (by decide) ?_
      refine lv_iadd hx hb dL_law_1338 ?_
      refine lv_fixi (y := 2) (by decide) ?_
      refine va_sld (i := 2) hx hb hX hbl hbA hS (by show ¬ (_ ∨ _); decide) dL_law_1339 ?_
      refine lv_fixi (y := (xs 2)) rfl ?_
      refine uVi (As := [.int (xs 1), .int (xs 2)]) (rest := []) (wr := [(q9, .inr (12, [.int 0, .int 4, .int 4, .ref (u11 0), .ref (u11 1), .ref (u11 2), .ref (u11 3), .int 0, .ref (u11 4), .ref (u11 5), .int 0, .ref (u11 6), .ref (u11 7), .ref (u11 8), .ref (u11 9), .ref (u11 10), .ref (u11 11), .ref (u11 12), .int 0, .ref (u11 13), .ref (u11 14), .ref (u11 15), .ref (u11 16), .ref (u11 17), .ref (u11 18), .int 0, .ref (u11 19), .int 0, .int 0, .int 0, .ref (u11 20), .int 0, .int 0, .ref (u11 21), .int 0, .ref (u11 60), .ref (u11 22), .ref (u11 23), .ref (u11 24), .ref (u11 61), .ref (u11 25), .ref (u11 26), .ref (u11 62), .ref (u11 63), .ref (u11 64), .ref (u11 27), .ref (u11 28), .ref (u11 29), .ref (u11 30), .ref (u11 31), .ref (u11 32), .ref (u11 33), .ref (u11 34), .ref (u11 35), .ref (u11 36), .ref (u11 37), .ref (u11 38), .ref (u11 65), .int 0, .int 0, .int 0, .int 0, .int 0, .long 0, .int 0, .int 0, .int 0, .int 0, .int 0, .int (-1), .int 0, .ref (u11 39), .ref (u11 40), .ref (u11 41), .ref (u11 42), .ref (u11 43), .int 0, .int 0, .ref (u11 44), .ref (u11 45), .ref (u11 46), .ref (u11 47), .ref (u11 48), .ref (u11 49), .ref (u11 50), .ref (u11 51), .int 0, .int 0, .int 0, .int 0, .ref (u11 52), .ref (u11 53), .int 0, .ref (u11 54), .ref (u11 55), .ref (u11 56), .ref (u11 57), .ref (u11 58), .ref (u11 59)]))]) [(q1, .inr (11, [.ref (u3 0), .ref (u3 7), .ref (u3 16), .ref (u3 17), .ref (u3 24), .ref (u3 27), .ref (u3 30), .ref (u3 33), .ref (u3 62), .ref (u3 77), .ref (u3 50)])), (u3 7, .inr (4, [.ref (u3 0), .ref (u3 8), .ref (u3 9), .ref (u3 10), .ref (u3 11), .ref (u3 12), .ref (u3 13), .ref (u3 14), .ref (u3 15), .int 0]))] B hl.1 hP hD hS [0, 1] [2] rfl rfl rfl (kX11_store_160 l D K _ q1 (u3 7) (u3 0) (u3 16) (u3 17) (u3 24) (u3 27) (u3 30) (u3 33) (u3 62) (u3 77) (u3 50) (u3 8) (u3 9) (u3 10) (u3 11) (u3 12) (u3 13) (u3 14) (u3 15) (xs 1) (xs 2)) wd_X11_store mml_L_135 rfl rfl rfl rfl ⟨Nat.le_of_ble_eq_true rfl, Nat.le_of_ble_eq_true rfl⟩ (Nat.le_of_ble_eq_true rfl) ⟨Nat.le_of_ble_eq_true rfl, Nat.le_of_ble_eq_true rfl⟩ dL_law_1340 (fun r356 u H locs hw hP hD hS => ?_)
      try dsimp only at hw
      rcases hw with ⟨rfl, w357⟩
      have hP : va_P D vwCl [(q9, .inr (12, [.int 0, .int 4, .int 4, .ref (u11 0), .ref (u11 1), .ref (u11 2), .ref (u11 3), .int 0, .ref (u11 4), .ref (u11 5), .int 0, .ref (u11 6), .ref (u11 7), .ref (u11 8), .ref (u11 9), .ref (u11 10), .ref (u11 11), .ref (u11 12), .int 0, .ref (u11 13), .ref (u11 14), .ref (u11 15), .ref (u11 16), .ref (u11 17), .ref (u11 18), .int 0, .ref (u11 19), .int 0, .int 0, .int 0, .ref (u11 20), .int 0, .int 0, .ref (u11 21), .int 0, .ref (u11 60), .ref (u11 22), .ref (u11 23), .ref (u11 24), .ref (u11 61), .ref (u11 25), .ref (u11 26), .ref (u11 62), .ref (u11 63), .ref (u11 64), .ref (u11 27), .ref (u11 28), .ref (u11 29), .ref (u11 30), .ref (u11 31), .ref (u11 32), .ref (u11 33), .ref (u11 34), .ref (u11 35), .ref (u11 36), .ref (u11 37), .ref (u11 38), .ref (u11 65), .int 0, .int 0, .int 0, .int 0, .int 0, .long 0, .int 0, .int 0, .int 0, .int 0, .int 0, .int (-1), .int 0, .ref (u11 39), .ref (u11 40), .ref (u11 41), .ref (u11 42), .ref (u11 43), .int 0, .int 0, .ref (u11 44), .ref (u11 45), .ref (u11 46), .ref (u11 47), .ref (u11 48), .ref (u11 49), .ref (u11 50), .ref (u11 51), .int 0, .int 0, .int 0, .int 0, .ref (u11 52), .ref (u11 53), .int 0, .ref (u11 54), .ref (u11 55), .ref (u11 56), .ref (u11 57), .ref (u11 58), .ref (u11 59)]))] H := hP
      have hD : va_D A [(q9, .inr (12, [.int 0, .int 4, .int 4, .ref (u11 0), .ref (u11 1), .ref (u11 2), .ref (u11 3), .int 0, .ref (u11 4), .ref (u11 5), .int 0, .ref (u11 6), .ref (u11 7), .ref (u11 8), .ref (u11 9), .ref (u11 10), .ref (u11 11), .ref (u11 12), .int 0, .ref (u11 13), .ref (u11 14), .ref (u11 15), .ref (u11 16), .ref (u11 17), .ref (u11 18), .int 0, .ref (u11 19), .int 0, .int 0, .int 0, .ref (u11 20), .int 0, .int 0, .ref (u11 21), .int 0, .ref (u11 60), .ref (u11 22), .ref (u11 23), .ref (u11 24), .ref (u11 61), .ref (u11 25), .ref (u11 26), .ref (u11 62), .ref (u11 63), .ref (u11 64), .ref (u11 27), .ref (u11 28), .ref (u11 29), .ref (u11 30), .ref (u11 31), .ref (u11 32), .ref (u11 33), .ref (u11 34), .ref (u11 35), .ref (u11 36), .ref (u11 37), .ref (u11 38), .ref (u11 65), .int 0, .int 0, .int 0, .int 0, .int 0, .long 0, .int 0, .int 0, .int 0, .int 0, .int 0, .int (-1), .int 0, .ref (u11 39), .ref (u11 40), .ref (u11 41), .ref (u11 42), .ref (u11 43), .int 0, .int 0, .ref (u11 44), .ref (u11 45), .ref (u11 46), .ref (u11 47), .ref (u11 48), .ref (u11 49), .ref (u11 50), .ref (u11 51), .int 0, .int 0, .int 0, .int 0, .ref (u11 52), .ref (u11 53), .int 0, .ref (u11 54), .ref (u11 55), .ref (u11 56), .ref (u11 57), .ref (u11 58), .ref (u11 59)]))] := hD
      refine lv_pc (q := 1343) rfl ?_
      refine lv_aload_n hx hb dL_law_1343 rfl (lv_at hl 1 rfl) ?_
      refine lv_aload_n hx hb dL_law_1344 rfl (lv_at hl 3 rfl) ?_
      refine lv_iload_n hx hb dL_law_1345 rfl (lv_at hl 0 rfl) ?_
      refine lv_iconst (v := 1) hx hb dL_law_1346 (by decide) ?_
      refine lv_iadd hx hb dL_law_1347 ?_
      refine lv_fixi (y := 1) (by decide) ?_
      refine va_sld (i := 1) hx hb hX hbl hbA hS (by show ¬ (_ ∨ _); decide) dL_law_1348 ?_
      refine lv_fixi (y := (xs 1)) rfl ?_
      refine lv_pc (q := 1349) rfl ?_
      refine lv_aload_n hx hb dL_law_1349 rfl (lv_at hl 3 rfl) ?_
      refine lv_iload_n hx hb dL_law_1350 rfl (lv_at hl 0 rfl) ?_
      refine lv_iconst (v := 2) hx hb dL_law_1351 (by decide) ?_
      refine lv_iadd hx hb dL_law_1352 ?_
      refine lv_fixi (y := 2) (by decide) ?_
      refine va_sld (i := 2) hx hb hX hbl hbA hS (by show ¬ (_ ∨ _); decide) dL_law_1353 ?_
      refine lv_fixi (y := (xs 2)) rfl ?_
      refine uVi (As := [.int (xs 1), .int (xs 2)]) (rest := [.int 0]) (wr := []) [(q9, .inr (12, [.int 0, .int 4, .int 4, .ref (u11 0), .ref (u11 1), .ref (u11 2), .ref (u11 3), .int 0, .ref (u11 4), .ref (u11 5), .int 0, .ref (u11 6), .ref (u11 7), .ref (u11 8), .ref (u11 9), .ref (u11 10), .ref (u11 11), .ref (u11 12), .int 0, .ref (u11 13), .ref (u11 14), .ref (u11 15), .ref (u11 16), .ref (u11 17), .ref (u11 18), .int 0, .ref (u11 19), .int 0, .int 0, .int 0, .ref (u11 20), .int 0, .int 0, .ref (u11 21), .int 0, .ref (u11 60), .ref (u11 22), .ref (u11 23), .ref (u11 24), .ref (u11 61), .ref (u11 25), .ref (u11 26), .ref (u11 62), .ref (u11 63), .ref (u11 64), .ref (u11 27), .ref (u11 28), .ref (u11 29), .ref (u11 30), .ref (u11 31), .ref (u11 32), .ref (u11 33), .ref (u11 34), .ref (u11 35), .ref (u11 36), .ref (u11 37), .ref (u11 38), .ref (u11 65), .int 0, .int 0, .int 0, .int 0, .int 0, .long 0, .int 0, .int 0, .int 0, .int 0, .int 0, .int (-1), .int 0, .ref (u11 39), .ref (u11 40), .ref (u11 41), .ref (u11 42), .ref (u11 43), .int 0, .int 0, .ref (u11 44), .ref (u11 45), .ref (u11 46), .ref (u11 47), .ref (u11 48), .ref (u11 49), .ref (u11 50), .ref (u11 51), .int 0, .int 0, .int 0, .int 0, .ref (u11 52), .ref (u11 53), .int 0, .ref (u11 54), .ref (u11 55), .ref (u11 56), .ref (u11 57), .ref (u11 58), .ref (u11 59)]))] B hl.1 hP hD hS [0] [] rfl rfl rfl (kX12_store_161 l D K _ q9 (u11 0) (u11 1) (u11 2) (u11 3) (u11 4) (u11 5) (u11 6) (u11 7) (u11 8) (u11 9) (u11 10) (u11 11) (u11 12) (u11 13) (u11 14) (u11 15) (u11 16) (u11 17) (u11 18) (u11 19) (u11 20) (u11 21) (u11 60) (u11 22) (u11 23) (u11 24) (u11 61) (u11 25) (u11 26) (u11 62) (u11 63) (u11 64) (u11 27) (u11 28) (u11 29) (u11 30) (u11 31) (u11 32) (u11 33) (u11 34) (u11 35) (u11 36) (u11 37) (u11 38) (u11 65) (u11 39) (u11 40) (u11 41) (u11 42) (u11 43) (u11 44) (u11 45) (u11 46) (u11 47) (u11 48) (u11 49) (u11 50) (u11 51) (u11 52) (u11 53) (u11 54) (u11 55) (u11 56) (u11 57) (u11 58) (u11 59) (xs 1) (xs 2)) wd_X12_store mml_L_138 rfl rfl rfl rfl ⟨Nat.le_of_ble_eq_true rfl, Nat.le_of_ble_eq_true rfl⟩ (Nat.le_of_ble_eq_true rfl) ⟨Nat.le_of_ble_eq_true rfl, Nat.le_of_ble_eq_true rfl⟩ dL_law_1354 (fun r358 u H locs hw hP hD hS => ?_)
      try dsimp only at hw
      rcases hw with ⟨rfl, w359⟩
      have hP : va_P D vwCl [] H := hP
      have hD : va_D A [] := hD
      refine lv_pc (q := 1357) rfl ?_
      refine lv_icmp_eq (tgt := 1474) hx hb dL_law_1357 (by decide) (fun _ => ?_) (fun h9 => absurd (by decide) h9)
      refine lv_iinc (v := 7) (lv' := [(3, .int 7), (2, .ref q9), (1, .ref q1), (0, .ref b)]) hx hb dL_law_1474 hl (k := 0) rfl (by decide) (by decide) rfl (fun ls hl => ?_)
      refine lv_goto (tgt := 18) hx hb dL_law_1477 (by decide) ?_
      refine lv_iload_n hx hb dL_law_18 rfl (lv_at hl 0 rfl) ?_
      refine lv_aload_n hx hb dL_law_19 rfl (lv_at hl 3 rfl) ?_
      refine va_slen hx hb hX hbl hbA hS dL_law_20 ?_
      refine lv_fixi (y := 7) (by decide) ?_
      refine lv_pc (q := 21) rfl ?_
      refine lv_bipush (v := 7) hx hb dL_law_21 (by decide) ?_
      refine lv_isub hx hb dL_law_23 ?_
      refine lv_fixi (y := 0) (by decide) ?_
      refine lv_icmp_gt (tgt := 1480) hx hb dL_law_24 (by decide) (fun _ => ?_) (fun h9 => absurd (by decide) h9)
      refine lv_iconst (v := 1) hx hb dL_law_1480 (by decide) ?_
      refine va_forget (fun q hq => by have h9 := hS.2.2 q hq; rw [hAe] at h9; exact h9) ?_
      refine W.widen (k := 600000) (n := 7302250) (by decide) (by decide) ?_
      exact lw_ret hx hb hr hlocks dL_law_1481
    · refine lv_fixi (y := 28) ejj ?_
      refine lv_tableIn (off := 1329) (tgt := 1362) hx hb dL_law_33 (by decide) (by decide) rfl (by decide) ?_
      replace hP := uSub (wc := [(q1, .inr (11, [.ref (u3 0), .ref (u3 7), .ref (u3 16), .ref (u3 17), .ref (u3 24), .ref (u3 27), .ref (u3 30), .ref (u3 33), .ref (u3 62), .ref (u3 77), .ref (u3 50)])), (u3 7, .inr (4, [.ref (u3 0), .ref (u3 8), .ref (u3 9), .ref (u3 10), .ref (u3 11), .ref (u3 12), .ref (u3 13), .ref (u3 14), .ref (u3 15), .int 0])), (u3 77, .inr (0, [.ref (u3 0), .ref (u3 7), .ref (u3 78), .ref (u3 91), .ref (u3 92), .ref (u3 93), .ref (u3 94), .ref (u3 95), .int 0])), (q9, .inr (12, [.int 0, .int 4, .int 4, .ref (u11 0), .ref (u11 1), .ref (u11 2), .ref (u11 3), .int 0, .ref (u11 4), .ref (u11 5), .int 0, .ref (u11 6), .ref (u11 7), .ref (u11 8), .ref (u11 9), .ref (u11 10), .ref (u11 11), .ref (u11 12), .int 0, .ref (u11 13), .ref (u11 14), .ref (u11 15), .ref (u11 16), .ref (u11 17), .ref (u11 18), .int 0, .ref (u11 19), .int 0, .int 0, .int 0, .ref (u11 20), .int 0, .int 0, .ref (u11 21), .int 0, .ref (u11 60), .ref (u11 22), .ref (u11 23), .ref (u11 24), .ref (u11 61), .ref (u11 25), .ref (u11 26), .ref (u11 62), .ref (u11 63), .ref (u11 64), .ref (u11 27), .ref (u11 28), .ref (u11 29), .ref (u11 30), .ref (u11 31), .ref (u11 32), .ref (u11 33), .ref (u11 34), .ref (u11 35), .ref (u11 36), .ref (u11 37), .ref (u11 38), .ref (u11 65), .int 0, .int 0, .int 0, .int 0, .int 0, .long 0, .int 0, .int 0, .int 0, .int 0, .int 0, .int (-1), .int 0, .ref (u11 39), .ref (u11 40), .ref (u11 41), .ref (u11 42), .ref (u11 43), .int 0, .int 0, .ref (u11 44), .ref (u11 45), .ref (u11 46), .ref (u11 47), .ref (u11 48), .ref (u11 49), .ref (u11 50), .ref (u11 51), .int 0, .int 0, .int 0, .int 0, .ref (u11 52), .ref (u11 53), .int 0, .ref (u11 54), .ref (u11 55), .ref (u11 56), .ref (u11 57), .ref (u11 58), .ref (u11 59)])), (u11 55, .inl (K 0, 12, .inl (fun _ => 0))), (u11 56, .inl (K 0, 12, .inl (fun _ => 0))), (u11 57, .inl (K 0, 12, .inl (fun _ => 0))), (u11 58, .inl (K 1, 12, .inl (fun _ => 0))), (u11 59, .inl (K 1, 12, .inl (fun _ => 0)))]) hP [0, 8, 78, 97, 153, 154, 155, 156, 157] rfl
      replace hD := hD.sub (ws' := [(q1, .inr (11, [.ref (u3 0), .ref (u3 7), .ref (u3 16), .ref (u3 17), .ref (u3 24), .ref (u3 27), .ref (u3 30), .ref (u3 33), .ref (u3 62), .ref (u3 77), .ref (u3 50)])), (u3 7, .inr (4, [.ref (u3 0), .ref (u3 8), .ref (u3 9), .ref (u3 10), .ref (u3 11), .ref (u3 12), .ref (u3 13), .ref (u3 14), .ref (u3 15), .int 0])), (u3 77, .inr (0, [.ref (u3 0), .ref (u3 7), .ref (u3 78), .ref (u3 91), .ref (u3 92), .ref (u3 93), .ref (u3 94), .ref (u3 95), .int 0])), (q9, .inr (12, [.int 0, .int 4, .int 4, .ref (u11 0), .ref (u11 1), .ref (u11 2), .ref (u11 3), .int 0, .ref (u11 4), .ref (u11 5), .int 0, .ref (u11 6), .ref (u11 7), .ref (u11 8), .ref (u11 9), .ref (u11 10), .ref (u11 11), .ref (u11 12), .int 0, .ref (u11 13), .ref (u11 14), .ref (u11 15), .ref (u11 16), .ref (u11 17), .ref (u11 18), .int 0, .ref (u11 19), .int 0, .int 0, .int 0, .ref (u11 20), .int 0, .int 0, .ref (u11 21), .int 0, .ref (u11 60), .ref (u11 22), .ref (u11 23), .ref (u11 24), .ref (u11 61), .ref (u11 25), .ref (u11 26), .ref (u11 62), .ref (u11 63), .ref (u11 64), .ref (u11 27), .ref (u11 28), .ref (u11 29), .ref (u11 30), .ref (u11 31), .ref (u11 32), .ref (u11 33), .ref (u11 34), .ref (u11 35), .ref (u11 36), .ref (u11 37), .ref (u11 38), .ref (u11 65), .int 0, .int 0, .int 0, .int 0, .int 0, .long 0, .int 0, .int 0, .int 0, .int 0, .int 0, .int (-1), .int 0, .ref (u11 39), .ref (u11 40), .ref (u11 41), .ref (u11 42), .ref (u11 43), .int 0, .int 0, .ref (u11 44), .ref (u11 45), .ref (u11 46), .ref (u11 47), .ref (u11 48), .ref (u11 49), .ref (u11 50), .ref (u11 51), .int 0, .int 0, .int 0, .int 0, .ref (u11 52), .ref (u11 53), .int 0, .ref (u11 54), .ref (u11 55), .ref (u11 56), .ref (u11 57), .ref (u11 58), .ref (u11 59)])), (u11 55, .inl (K 0, 12, .inl (fun _ => 0))), (u11 56, .inl (K 0, 12, .inl (fun _ => 0))), (u11 57, .inl (K 0, 12, .inl (fun _ => 0))), (u11 58, .inl (K 1, 12, .inl (fun _ => 0))), (u11 59, .inl (K 1, 12, .inl (fun _ => 0)))]) [0, 8, 78, 97, 153, 154, 155, 156, 157] rfl rfl
      refine lv_pc (q := 1362) rfl ?_
      refine lv_aload_n hx hb dL_law_1362 rfl (lv_at hl 2 rfl) ?_
      refine lv_aload_n hx hb dL_law_1363 rfl (lv_at hl 3 rfl) ?_
      refine lv_iload_n hx hb dL_law_1364 rfl (lv_at hl 0 rfl) ?_
      refine lv_iconst (v := 1) hx hb dL_law_1365 (by decide) ?_
      refine lv_iadd hx hb dL_law_1366 ?_
      refine lv_fixi (y := 1) (by decide) ?_
      refine va_sld (i := 1) hx hb hX hbl hbA hS (by show ¬ (_ ∨ _); decide) dL_law_1367 ?_
      refine lv_fixi (y := (xs 1)) rfl ?_
      refine lv_pc (q := 1368) rfl ?_
      refine uVi (As := [.int (xs 1)]) (rest := []) (wr := [(q9, .inr (12, [.int 0, .int 4, .int 4, .ref (u11 0), .ref (u11 1), .ref (u11 2), .ref (u11 3), .int 0, .ref (u11 4), .ref (u11 5), .int 0, .ref (u11 6), .ref (u11 7), .ref (u11 8), .ref (u11 9), .ref (u11 10), .ref (u11 11), .ref (u11 12), .int 0, .ref (u11 13), .ref (u11 14), .ref (u11 15), .ref (u11 16), .ref (u11 17), .ref (u11 18), .int 0, .ref (u11 19), .int 0, .int 0, .int 0, .ref (u11 20), .int 0, .int 0, .ref (u11 21), .int 0, .ref (u11 60), .ref (u11 22), .ref (u11 23), .ref (u11 24), .ref (u11 61), .ref (u11 25), .ref (u11 26), .ref (u11 62), .ref (u11 63), .ref (u11 64), .ref (u11 27), .ref (u11 28), .ref (u11 29), .ref (u11 30), .ref (u11 31), .ref (u11 32), .ref (u11 33), .ref (u11 34), .ref (u11 35), .ref (u11 36), .ref (u11 37), .ref (u11 38), .ref (u11 65), .int 0, .int 0, .int 0, .int 0, .int 0, .long 0, .int 0, .int 0, .int 0, .int 0, .int 0, .int (-1), .int 0, .ref (u11 39), .ref (u11 40), .ref (u11 41), .ref (u11 42), .ref (u11 43), .int 0, .int 0, .ref (u11 44), .ref (u11 45), .ref (u11 46), .ref (u11 47), .ref (u11 48), .ref (u11 49), .ref (u11 50), .ref (u11 51), .int 0, .int 0, .int 0, .int 0, .ref (u11 52), .ref (u11 53), .int 0, .ref (u11 54), .ref (u11 55), .ref (u11 56), .ref (u11 57), .ref (u11 58), .ref (u11 59)])), (u11 55, .inl (K 0, 12, .inl (fun _ => 0))), (u11 56, .inl (K 0, 12, .inl (fun _ => 0))), (u11 57, .inl (K 0, 12, .inl (fun _ => 0))), (u11 58, .inl (K 1, 12, .inl (fun _ => 0))), (u11 59, .inl (K 1, 12, .inl (fun _ => 0)))]) [(q1, .inr (11, [.ref (u3 0), .ref (u3 7), .ref (u3 16), .ref (u3 17), .ref (u3 24), .ref (u3 27), .ref (u3 30), .ref (u3 33), .ref (u3 62), .ref (u3 77), .ref (u3 50)])), (u3 77, .inr (0, [.ref (u3 0), .ref (u3 7), .ref (u3 78), .ref (u3 91), .ref (u3 92), .ref (u3 93), .ref (u3 94), .ref (u3 95), .int 0])), (u3 7, .inr (4, [.ref (u3 0), .ref (u3 8), .ref (u3 9), .ref (u3 10), .ref (u3 11), .ref (u3 12), .ref (u3 13), .ref (u3 14), .ref (u3 15), .int 0]))] B hl.1 hP hD hS [0, 2, 1] [3, 4, 5, 6, 7, 8] rfl rfl rfl (kX11_supply_166 l D K _ q1 (u3 77) (u3 7) (u3 0) (u3 16) (u3 17) (u3 24) (u3 27) (u3 30) (u3 33) (u3 62) (u3 50) (u3 78) (u3 91) (u3 92) (u3 93) (u3 94) (u3 95) (u3 8) (u3 9) (u3 10) (u3 11) (u3 12) (u3 13) (u3 14) (u3 15) (xs 1)) wd_X11_supply mml_L_139 rfl rfl rfl rfl ⟨Nat.le_of_ble_eq_true rfl, Nat.le_of_ble_eq_true rfl⟩ (Nat.le_of_ble_eq_true rfl) ⟨Nat.le_of_ble_eq_true rfl, Nat.le_of_ble_eq_true rfl⟩ dL_law_1368 (fun r360 u H locs hw hP hD hS => ?_)
      try dsimp only at hw
      rcases hw with ⟨rfl, w361⟩ | ⟨rfl, ⟨w362, w363⟩⟩
      · have hP : va_P D vwCl [(q9, .inr (12, [.int 0, .int 4, .int 4, .ref (u11 0), .ref (u11 1), .ref (u11 2), .ref (u11 3), .int 0, .ref (u11 4), .ref (u11 5), .int 0, .ref (u11 6), .ref (u11 7), .ref (u11 8), .ref (u11 9), .ref (u11 10), .ref (u11 11), .ref (u11 12), .int 0, .ref (u11 13), .ref (u11 14), .ref (u11 15), .ref (u11 16), .ref (u11 17), .ref (u11 18), .int 0, .ref (u11 19), .int 0, .int 0, .int 0, .ref (u11 20), .int 0, .int 0, .ref (u11 21), .int 0, .ref (u11 60), .ref (u11 22), .ref (u11 23), .ref (u11 24), .ref (u11 61), .ref (u11 25), .ref (u11 26), .ref (u11 62), .ref (u11 63), .ref (u11 64), .ref (u11 27), .ref (u11 28), .ref (u11 29), .ref (u11 30), .ref (u11 31), .ref (u11 32), .ref (u11 33), .ref (u11 34), .ref (u11 35), .ref (u11 36), .ref (u11 37), .ref (u11 38), .ref (u11 65), .int 0, .int 0, .int 0, .int 0, .int 0, .long 0, .int 0, .int 0, .int 0, .int 0, .int 0, .int (-1), .int 0, .ref (u11 39), .ref (u11 40), .ref (u11 41), .ref (u11 42), .ref (u11 43), .int 0, .int 0, .ref (u11 44), .ref (u11 45), .ref (u11 46), .ref (u11 47), .ref (u11 48), .ref (u11 49), .ref (u11 50), .ref (u11 51), .int 0, .int 0, .int 0, .int 0, .ref (u11 52), .ref (u11 53), .int 0, .ref (u11 54), .ref (u11 55), .ref (u11 56), .ref (u11 57), .ref (u11 58), .ref (u11 59)])), (u11 55, .inl (K 0, 12, .inl (fun _ => 0))), (u11 56, .inl (K 0, 12, .inl (fun _ => 0))), (u11 57, .inl (K 0, 12, .inl (fun _ => 0))), (u11 58, .inl (K 1, 12, .inl (fun _ => 0))), (u11 59, .inl (K 1, 12, .inl (fun _ => 0)))] H := hP
        have hD : va_D A [(q9, .inr (12, [.int 0, .int 4, .int 4, .ref (u11 0), .ref (u11 1), .ref (u11 2), .ref (u11 3), .int 0, .ref (u11 4), .ref (u11 5), .int 0, .ref (u11 6), .ref (u11 7), .ref (u11 8), .ref (u11 9), .ref (u11 10), .ref (u11 11), .ref (u11 12), .int 0, .ref (u11 13), .ref (u11 14), .ref (u11 15), .ref (u11 16), .ref (u11 17), .ref (u11 18), .int 0, .ref (u11 19), .int 0, .int 0, .int 0, .ref (u11 20), .int 0, .int 0, .ref (u11 21), .int 0, .ref (u11 60), .ref (u11 22), .ref (u11 23), .ref (u11 24), .ref (u11 61), .ref (u11 25), .ref (u11 26), .ref (u11 62), .ref (u11 63), .ref (u11 64), .ref (u11 27), .ref (u11 28), .ref (u11 29), .ref (u11 30), .ref (u11 31), .ref (u11 32), .ref (u11 33), .ref (u11 34), .ref (u11 35), .ref (u11 36), .ref (u11 37), .ref (u11 38), .ref (u11 65), .int 0, .int 0, .int 0, .int 0, .int 0, .long 0, .int 0, .int 0, .int 0, .int 0, .int 0, .int (-1), .int 0, .ref (u11 39), .ref (u11 40), .ref (u11 41), .ref (u11 42), .ref (u11 43), .int 0, .int 0, .ref (u11 44), .ref (u11 45), .ref (u11 46), .ref (u11 47), .ref (u11 48), .ref (u11 49), .ref (u11 50), .ref (u11 51), .int 0, .int 0, .int 0, .int 0, .ref (u11 52), .ref (u11 53), .int 0, .ref (u11 54), .ref (u11 55), .ref (u11 56), .ref (u11 57), .ref (u11 58), .ref (u11 59)])), (u11 55, .inl (K 0, 12, .inl (fun _ => 0))), (u11 56, .inl (K 0, 12, .inl (fun _ => 0))), (u11 57, .inl (K 0, 12, .inl (fun _ => 0))), (u11 58, .inl (K 1, 12, .inl (fun _ => 0))), (u11 59, .inl (K 1, 12, .inl (fun _ => 0)))] := hD
        refine lv_aload_n hx hb dL_law_1371 rfl (lv_at hl 1 rfl) ?_
        refine lv_aload_n hx hb dL_law_1372 rfl (lv_at hl 3 rfl) ?_
        refine lv_iload_n hx hb dL_law_1373 rfl (lv_at hl 0 rfl) ?_
        refine lv_iconst (v := 1) hx hb dL_law_1374 (by decide) ?_
        refine lv_iadd hx hb dL_law_1375 ?_
        refine lv_fixi (y := 1) (by decide) ?_
        refine lv_pc (q := 1376) rfl ?_
        refine va_sld (i := 1) hx hb hX hbl hbA hS (by show ¬ (_ ∨ _); decide) dL_law_1376 ?_
        refine lv_fixi (y := (xs 1)) rfl ?_
        refine uVi (As := [.int (xs 1)]) (rest := [.int (-1)]) (wr := []) [(q9, .inr (12, [.int 0, .int 4, .int 4, .ref (u11 0), .ref (u11 1), .ref (u11 2), .ref (u11 3), .int 0, .ref (u11 4), .ref (u11 5), .int 0, .ref (u11 6), .ref (u11 7), .ref (u11 8), .ref (u11 9), .ref (u11 10), .ref (u11 11), .ref (u11 12), .int 0, .ref (u11 13), .ref (u11 14), .ref (u11 15), .ref (u11 16), .ref (u11 17), .ref (u11 18), .int 0, .ref (u11 19), .int 0, .int 0, .int 0, .ref (u11 20), .int 0, .int 0, .ref (u11 21), .int 0, .ref (u11 60), .ref (u11 22), .ref (u11 23), .ref (u11 24), .ref (u11 61), .ref (u11 25), .ref (u11 26), .ref (u11 62), .ref (u11 63), .ref (u11 64), .ref (u11 27), .ref (u11 28), .ref (u11 29), .ref (u11 30), .ref (u11 31), .ref (u11 32), .ref (u11 33), .ref (u11 34), .ref (u11 35), .ref (u11 36), .ref (u11 37), .ref (u11 38), .ref (u11 65), .int 0, .int 0, .int 0, .int 0, .int 0, .long 0, .int 0, .int 0, .int 0, .int 0, .int 0, .int (-1), .int 0, .ref (u11 39), .ref (u11 40), .ref (u11 41), .ref (u11 42), .ref (u11 43), .int 0, .int 0, .ref (u11 44), .ref (u11 45), .ref (u11 46), .ref (u11 47), .ref (u11 48), .ref (u11 49), .ref (u11 50), .ref (u11 51), .int 0, .int 0, .int 0, .int 0, .ref (u11 52), .ref (u11 53), .int 0, .ref (u11 54), .ref (u11 55), .ref (u11 56), .ref (u11 57), .ref (u11 58), .ref (u11 59)])), (u11 59, .inl (K 1, 12, .inl (fun _ => 0))), (u11 58, .inl (K 1, 12, .inl (fun _ => 0))), (u11 55, .inl (K 0, 12, .inl (fun _ => 0))), (u11 56, .inl (K 0, 12, .inl (fun _ => 0))), (u11 57, .inl (K 0, 12, .inl (fun _ => 0)))] B hl.1 hP hD hS [0, 5, 4, 1, 2, 3] [] rfl rfl rfl (kX12_supply_170 l D K _ q9 (u11 59) (u11 58) (u11 55) (u11 56) (u11 57) (u11 0) (u11 1) (u11 2) (u11 3) (u11 4) (u11 5) (u11 6) (u11 7) (u11 8) (u11 9) (u11 10) (u11 11) (u11 12) (u11 13) (u11 14) (u11 15) (u11 16) (u11 17) (u11 18) (u11 19) (u11 20) (u11 21) (u11 60) (u11 22) (u11 23) (u11 24) (u11 61) (u11 25) (u11 26) (u11 62) (u11 63) (u11 64) (u11 27) (u11 28) (u11 29) (u11 30) (u11 31) (u11 32) (u11 33) (u11 34) (u11 35) (u11 36) (u11 37) (u11 38) (u11 65) (u11 39) (u11 40) (u11 41) (u11 42) (u11 43) (u11 44) (u11 45) (u11 46) (u11 47) (u11 48) (u11 49) (u11 50) (u11 51) (u11 52) (u11 53) (u11 54) (fun _ => 0) (fun _ => 0) (fun _ => 0) (fun _ => 0) (fun _ => 0) (xs 1) (fun _ => Or.inl rfl) (fun _ => Or.inl rfl)) wd_X12_supply mml_L_142 rfl rfl rfl rfl ⟨Nat.le_of_ble_eq_true rfl, Nat.le_of_ble_eq_true rfl⟩ (Nat.le_of_ble_eq_true rfl) ⟨Nat.le_of_ble_eq_true rfl, Nat.le_of_ble_eq_true rfl⟩ dL_law_1377 (fun r364 u H locs hw hP hD hS => ?_)
        try dsimp only at hw
        rcases hw with ⟨rfl, w365⟩ | ⟨rfl, ⟨w366, w367⟩⟩
        · have hP : va_P D vwCl [] H := hP
          have hD : va_D A [] := hD
          refine lv_icmp_eq (tgt := 1474) hx hb dL_law_1380 (by decide) (fun _ => ?_) (fun h9 => absurd (by decide) h9)
          refine lv_iinc (v := 7) (lv' := [(3, .int 7), (2, .ref q9), (1, .ref q1), (0, .ref b)]) hx hb dL_law_1474 hl (k := 0) rfl (by decide) (by decide) rfl (fun ls hl => ?_)
          refine lv_goto (tgt := 18) hx hb dL_law_1477 (by decide) ?_
          refine lv_iload_n hx hb dL_law_18 rfl (lv_at hl 0 rfl) ?_
          refine lv_pc (q := 19) rfl ?_
          refine lv_aload_n hx hb dL_law_19 rfl (lv_at hl 3 rfl) ?_
          refine va_slen hx hb hX hbl hbA hS dL_law_20 ?_
          refine lv_fixi (y := 7) (by decide) ?_
          refine lv_bipush (v := 7) hx hb dL_law_21 (by decide) ?_
          refine lv_isub hx hb dL_law_23 ?_
          refine lv_fixi (y := 0) (by decide) ?_
          refine lv_icmp_gt (tgt := 1480) hx hb dL_law_24 (by decide) (fun _ => ?_) (fun h9 => absurd (by decide) h9)
          refine lv_iconst (v := 1) hx hb dL_law_1480 (by decide) ?_
          refine lv_pc (q := 1481) rfl ?_
          refine va_forget (fun q hq => by have h9 := hS.2.2 q hq; rw [hAe] at h9; exact h9) ?_
          refine W.widen (k := 600000) (n := 7302250) (by decide) (by decide) ?_
          exact lw_ret hx hb hr hlocks dL_law_1481
        have hP : va_P D vwCl [] H := hP
        have hD : va_D A [] := hD
        exfalso
        try simp only [fa_lt, fa_le, fa_eq, Int32.reduceToInt] at w361 w366 w367
        omega
      have hP : va_P D vwCl [(q9, .inr (12, [.int 0, .int 4, .int 4, .ref (u11 0), .ref (u11 1), .ref (u11 2), .ref (u11 3), .int 0, .ref (u11 4), .ref (u11 5), .int 0, .ref (u11 6), .ref (u11 7), .ref (u11 8), .ref (u11 9), .ref (u11 10), .ref (u11 11), .ref (u11 12), .int 0, .ref (u11 13), .ref (u11 14), .ref (u11 15), .ref (u11 16), .ref (u11 17), .ref (u11 18), .int 0, .ref (u11 19), .int 0, .int 0, .int 0, .ref (u11 20), .int 0, .int 0, .ref (u11 21), .int 0, .ref (u11 60), .ref (u11 22), .ref (u11 23), .ref (u11 24), .ref (u11 61), .ref (u11 25), .ref (u11 26), .ref (u11 62), .ref (u11 63), .ref (u11 64), .ref (u11 27), .ref (u11 28), .ref (u11 29), .ref (u11 30), .ref (u11 31), .ref (u11 32), .ref (u11 33), .ref (u11 34), .ref (u11 35), .ref (u11 36), .ref (u11 37), .ref (u11 38), .ref (u11 65), .int 0, .int 0, .int 0, .int 0, .int 0, .long 0, .int 0, .int 0, .int 0, .int 0, .int 0, .int (-1), .int 0, .ref (u11 39), .ref (u11 40), .ref (u11 41), .ref (u11 42), .ref (u11 43), .int 0, .int 0, .ref (u11 44), .ref (u11 45), .ref (u11 46), .ref (u11 47), .ref (u11 48), .ref (u11 49), .ref (u11 50), .ref (u11 51), .int 0, .int 0, .int 0, .int 0, .ref (u11 52), .ref (u11 53), .int 0, .ref (u11 54), .ref (u11 55), .ref (u11 56), .ref (u11 57), .ref (u11 58), .ref (u11 59)])), (u11 55, .inl (K 0, 12, .inl (fun _ => 0))), (u11 56, .inl (K 0, 12, .inl (fun _ => 0))), (u11 57, .inl (K 0, 12, .inl (fun _ => 0))), (u11 58, .inl (K 1, 12, .inl (fun _ => 0))), (u11 59, .inl (K 1, 12, .inl (fun _ => 0)))] H := hP
      have hD : va_D A [(q9, .inr (12, [.int 0, .int 4, .int 4, .ref (u11 0), .ref (u11 1), .ref (u11 2), .ref (u11 3), .int 0, .ref (u11 4), .ref (u11 5), .int 0, .ref (u11 6), .ref (u11 7), .ref (u11 8), .ref (u11 9), .ref (u11 10), .ref (u11 11), .ref (u11 12), .int 0, .ref (u11 13), .ref (u11 14), .ref (u11 15), .ref (u11 16), .ref (u11 17), .ref (u11 18), .int 0, .ref (u11 19), .int 0, .int 0, .int 0, .ref (u11 20), .int 0, .int 0, .ref (u11 21), .int 0, .ref (u11 60), .ref (u11 22), .ref (u11 23), .ref (u11 24), .ref (u11 61), .ref (u11 25), .ref (u11 26), .ref (u11 62), .ref (u11 63), .ref (u11 64), .ref (u11 27), .ref (u11 28), .ref (u11 29), .ref (u11 30), .ref (u11 31), .ref (u11 32), .ref (u11 33), .ref (u11 34), .ref (u11 35), .ref (u11 36), .ref (u11 37), .ref (u11 38), .ref (u11 65), .int 0, .int 0, .int 0, .int 0, .int 0, .long 0, .int 0, .int 0, .int 0, .int 0, .int 0, .int (-1), .int 0, .ref (u11 39), .ref (u11 40), .ref (u11 41), .ref (u11 42), .ref (u11 43), .int 0, .int 0, .ref (u11 44), .ref (u11 45), .ref (u11 46), .ref (u11 47), .ref (u11 48), .ref (u11 49), .ref (u11 50), .ref (u11 51), .int 0, .int 0, .int 0, .int 0, .ref (u11 52), .ref (u11 53), .int 0, .ref (u11 54), .ref (u11 55), .ref (u11 56), .ref (u11 57), .ref (u11 58), .ref (u11 59)])), (u11 55, .inl (K 0, 12, .inl (fun _ => 0))), (u11 56, .inl (K 0, 12, .inl (fun _ => 0))), (u11 57, .inl (K 0, 12, .inl (fun _ => 0))), (u11 58, .inl (K 1, 12, .inl (fun _ => 0))), (u11 59, .inl (K 1, 12, .inl (fun _ => 0)))] := hD
      refine lv_aload_n hx hb dL_law_1371 rfl (lv_at hl 1 rfl) ?_
      refine lv_aload_n hx hb dL_law_1372 rfl (lv_at hl 3 rfl) ?_
      refine lv_iload_n hx hb dL_law_1373 rfl (lv_at hl 0 rfl) ?_
      refine lv_iconst (v := 1) hx hb dL_law_1374 (by decide) ?_
      refine lv_iadd hx hb dL_law_1375 ?_
      refine lv_fixi (y := 1) (by decide) ?_
      refine lv_pc (q := 1376) rfl ?_
      refine va_sld (i := 1) hx hb hX hbl hbA hS (by show ¬ (_ ∨ _); decide) dL_law_1376 ?_
      refine lv_fixi (y := (xs 1)) rfl ?_
      refine uVi (As := [.int (xs 1)]) (rest := [.int 0]) (wr := []) [(q9, .inr (12, [.int 0, .int 4, .int 4, .ref (u11 0), .ref (u11 1), .ref (u11 2), .ref (u11 3), .int 0, .ref (u11 4), .ref (u11 5), .int 0, .ref (u11 6), .ref (u11 7), .ref (u11 8), .ref (u11 9), .ref (u11 10), .ref (u11 11), .ref (u11 12), .int 0, .ref (u11 13), .ref (u11 14), .ref (u11 15), .ref (u11 16), .ref (u11 17), .ref (u11 18), .int 0, .ref (u11 19), .int 0, .int 0, .int 0, .ref (u11 20), .int 0, .int 0, .ref (u11 21), .int 0, .ref (u11 60), .ref (u11 22), .ref (u11 23), .ref (u11 24), .ref (u11 61), .ref (u11 25), .ref (u11 26), .ref (u11 62), .ref (u11 63), .ref (u11 64), .ref (u11 27), .ref (u11 28), .ref (u11 29), .ref (u11 30), .ref (u11 31), .ref (u11 32), .ref (u11 33), .ref (u11 34), .ref (u11 35), .ref (u11 36), .ref (u11 37), .ref (u11 38), .ref (u11 65), .int 0, .int 0, .int 0, .int 0, .int 0, .long 0, .int 0, .int 0, .int 0, .int 0, .int 0, .int (-1), .int 0, .ref (u11 39), .ref (u11 40), .ref (u11 41), .ref (u11 42), .ref (u11 43), .int 0, .int 0, .ref (u11 44), .ref (u11 45), .ref (u11 46), .ref (u11 47), .ref (u11 48), .ref (u11 49), .ref (u11 50), .ref (u11 51), .int 0, .int 0, .int 0, .int 0, .ref (u11 52), .ref (u11 53), .int 0, .ref (u11 54), .ref (u11 55), .ref (u11 56), .ref (u11 57), .ref (u11 58), .ref (u11 59)])), (u11 59, .inl (K 1, 12, .inl (fun _ => 0))), (u11 58, .inl (K 1, 12, .inl (fun _ => 0))), (u11 55, .inl (K 0, 12, .inl (fun _ => 0))), (u11 56, .inl (K 0, 12, .inl (fun _ => 0))), (u11 57, .inl (K 0, 12, .inl (fun _ => 0)))] B hl.1 hP hD hS [0, 5, 4, 1, 2, 3] [] rfl rfl rfl (kX12_supply_170 l D K _ q9 (u11 59) (u11 58) (u11 55) (u11 56) (u11 57) (u11 0) (u11 1) (u11 2) (u11 3) (u11 4) (u11 5) (u11 6) (u11 7) (u11 8) (u11 9) (u11 10) (u11 11) (u11 12) (u11 13) (u11 14) (u11 15) (u11 16) (u11 17) (u11 18) (u11 19) (u11 20) (u11 21) (u11 60) (u11 22) (u11 23) (u11 24) (u11 61) (u11 25) (u11 26) (u11 62) (u11 63) (u11 64) (u11 27) (u11 28) (u11 29) (u11 30) (u11 31) (u11 32) (u11 33) (u11 34) (u11 35) (u11 36) (u11 37) (u11 38) (u11 65) (u11 39) (u11 40) (u11 41) (u11 42) (u11 43) (u11 44) (u11 45) (u11 46) (u11 47) (u11 48) (u11 49) (u11 50) (u11 51) (u11 52) (u11 53) (u11 54) (fun _ => 0) (fun _ => 0) (fun _ => 0) (fun _ => 0) (fun _ => 0) (xs 1) (fun _ => Or.inl rfl) (fun _ => Or.inl rfl)) wd_X12_supply mml_L_142 rfl rfl rfl rfl ⟨Nat.le_of_ble_eq_true rfl, Nat.le_of_ble_eq_true rfl⟩ (Nat.le_of_ble_eq_true rfl) ⟨Nat.le_of_ble_eq_true rfl, Nat.le_of_ble_eq_true rfl⟩ dL_law_1377 (fun r368 u H locs hw hP hD hS => ?_)
      try dsimp only at hw
      rcases hw with ⟨rfl, w369⟩ | ⟨rfl, ⟨w370, w371⟩⟩
      · have hP : va_P D vwCl [] H := hP
        have hD : va_D A [] := hD
        exfalso
        try simp only [fa_lt, fa_le, fa_eq, Int32.reduceToInt] at w362 w363 w369
        omega
      have hP : va_P D vwCl [] H := hP
      have hD : va_D A [] := hD
      refine lv_icmp_eq (tgt := 1474) hx hb dL_law_1380 (by decide) (fun _ => ?_) (fun h9 => absurd (by decide) h9)
      refine lv_iinc (v := 7) (lv' := [(3, .int 7), (2, .ref q9), (1, .ref q1), (0, .ref b)]) hx hb dL_law_1474 hl (k := 0) rfl (by decide) (by decide) rfl (fun ls hl => ?_)
      refine lv_goto (tgt := 18) hx hb dL_law_1477 (by decide) ?_
      refine lv_iload_n hx hb dL_law_18 rfl (lv_at hl 0 rfl) ?_
      refine lv_pc (q := 19) rfl ?_
      refine lv_aload_n hx hb dL_law_19 rfl (lv_at hl 3 rfl) ?_
      refine va_slen hx hb hX hbl hbA hS dL_law_20 ?_
      refine lv_fixi (y := 7) (by decide) ?_
      refine lv_bipush (v := 7) hx hb dL_law_21 (by decide) ?_
      refine lv_isub hx hb dL_law_23 ?_
      refine lv_fixi (y := 0) (by decide) ?_
      refine lv_icmp_gt (tgt := 1480) hx hb dL_law_24 (by decide) (fun _ => ?_) (fun h9 => absurd (by decide) h9)
      refine lv_iconst (v := 1) hx hb dL_law_1480 (by decide) ?_
      refine lv_pc (q := 1481) rfl ?_
      refine va_forget (fun q hq => by have h9 := hS.2.2 q hq; rw [hAe] at h9; exact h9) ?_
      refine W.widen (k := 600000) (n := 7302250) (by decide) (by decide) ?_
      exact lw_ret hx hb hr hlocks dL_law_1481
    · refine lv_fixi (y := 29) ejj ?_
      refine lv_tableIn (off := 1352) (tgt := 1385) hx hb dL_law_33 (by decide) (by decide) rfl (by decide) ?_
      replace hP := uSub (wc := [(q1, .inr (11, [.ref (u3 0), .ref (u3 7), .ref (u3 16), .ref (u3 17), .ref (u3 24), .ref (u3 27), .ref (u3 30), .ref (u3 33), .ref (u3 62), .ref (u3 77), .ref (u3 50)])), (u3 77, .inr (0, [.ref (u3 0), .ref (u3 7), .ref (u3 78), .ref (u3 91), .ref (u3 92), .ref (u3 93), .ref (u3 94), .ref (u3 95), .int 0])), (q9, .inr (12, [.int 0, .int 4, .int 4, .ref (u11 0), .ref (u11 1), .ref (u11 2), .ref (u11 3), .int 0, .ref (u11 4), .ref (u11 5), .int 0, .ref (u11 6), .ref (u11 7), .ref (u11 8), .ref (u11 9), .ref (u11 10), .ref (u11 11), .ref (u11 12), .int 0, .ref (u11 13), .ref (u11 14), .ref (u11 15), .ref (u11 16), .ref (u11 17), .ref (u11 18), .int 0, .ref (u11 19), .int 0, .int 0, .int 0, .ref (u11 20), .int 0, .int 0, .ref (u11 21), .int 0, .ref (u11 60), .ref (u11 22), .ref (u11 23), .ref (u11 24), .ref (u11 61), .ref (u11 25), .ref (u11 26), .ref (u11 62), .ref (u11 63), .ref (u11 64), .ref (u11 27), .ref (u11 28), .ref (u11 29), .ref (u11 30), .ref (u11 31), .ref (u11 32), .ref (u11 33), .ref (u11 34), .ref (u11 35), .ref (u11 36), .ref (u11 37), .ref (u11 38), .ref (u11 65), .int 0, .int 0, .int 0, .int 0, .int 0, .long 0, .int 0, .int 0, .int 0, .int 0, .int 0, .int (-1), .int 0, .ref (u11 39), .ref (u11 40), .ref (u11 41), .ref (u11 42), .ref (u11 43), .int 0, .int 0, .ref (u11 44), .ref (u11 45), .ref (u11 46), .ref (u11 47), .ref (u11 48), .ref (u11 49), .ref (u11 50), .ref (u11 51), .int 0, .int 0, .int 0, .int 0, .ref (u11 52), .ref (u11 53), .int 0, .ref (u11 54), .ref (u11 55), .ref (u11 56), .ref (u11 57), .ref (u11 58), .ref (u11 59)]))]) hP [0, 78, 97] rfl
      replace hD := hD.sub (ws' := [(q1, .inr (11, [.ref (u3 0), .ref (u3 7), .ref (u3 16), .ref (u3 17), .ref (u3 24), .ref (u3 27), .ref (u3 30), .ref (u3 33), .ref (u3 62), .ref (u3 77), .ref (u3 50)])), (u3 77, .inr (0, [.ref (u3 0), .ref (u3 7), .ref (u3 78), .ref (u3 91), .ref (u3 92), .ref (u3 93), .ref (u3 94), .ref (u3 95), .int 0])), (q9, .inr (12, [.int 0, .int 4, .int 4, .ref (u11 0), .ref (u11 1), .ref (u11 2), .ref (u11 3), .int 0, .ref (u11 4), .ref (u11 5), .int 0, .ref (u11 6), .ref (u11 7), .ref (u11 8), .ref (u11 9), .ref (u11 10), .ref (u11 11), .ref (u11 12), .int 0, .ref (u11 13), .ref (u11 14), .ref (u11 15), .ref (u11 16), .ref (u11 17), .ref (u11 18), .int 0, .ref (u11 19), .int 0, .int 0, .int 0, .ref (u11 20), .int 0, .int 0, .ref (u11 21), .int 0, .ref (u11 60), .ref (u11 22), .ref (u11 23), .ref (u11 24), .ref (u11 61), .ref (u11 25), .ref (u11 26), .ref (u11 62), .ref (u11 63), .ref (u11 64), .ref (u11 27), .ref (u11 28), .ref (u11 29), .ref (u11 30), .ref (u11 31), .ref (u11 32), .ref (u11 33), .ref (u11 34), .ref (u11 35), .ref (u11 36), .ref (u11 37), .ref (u11 38), .ref (u11 65), .int 0, .int 0, .int 0, .int 0, .int 0, .long 0, .int 0, .int 0, .int 0, .int 0, .int 0, .int (-1), .int 0, .ref (u11 39), .ref (u11 40), .ref (u11 41), .ref (u11 42), .ref (u11 43), .int 0, .int 0, .ref (u11 44), .ref (u11 45), .ref (u11 46), .ref (u11 47), .ref (u11 48), .ref (u11 49), .ref (u11 50), .ref (u11 51), .int 0, .int 0, .int 0, .int 0, .ref (u11 52), .ref (u11 53), .int 0, .ref (u11 54), .ref (u11 55), .ref (u11 56), .ref (u11 57), .ref (u11 58), .ref (u11 59)]))]) [0, 78, 97] rfl rfl
      refine lv_pc (q := 1385) rfl ?_
      refine lv_aload_n hx hb dL_law_1385 rfl (lv_at hl 2 rfl) ?_
      refine lv_aload_n hx hb dL_law_1386 rfl (lv_at hl 3 rfl) ?_
      refine lv_iload_n hx hb dL_law_1387 rfl (lv_at hl 0 rfl) ?_
      refine lv_iconst (v := 1) hx hb dL_law_1388 (by decide) ?_
      refine lv_iadd hx hb dL_law_1389 ?_
      refine lv_fixi (y := 1) (by decide) ?_
      refine va_sld (i := 1) hx hb hX hbl hbA hS (by show ¬ (_ ∨ _); decide) dL_law_1390 ?_
      refine lv_fixi (y := (xs 1)) rfl ?_
      refine lv_pc (q := 1391) rfl ?_
      refine lv_aload_n hx hb dL_law_1391 rfl (lv_at hl 3 rfl) ?_
      refine lv_iload_n hx hb dL_law_1392 rfl (lv_at hl 0 rfl) ?_
      refine lv_iconst (v := 2) hx hb dL_law_1393 (by decide) ?_
      refine lv_iadd hx hb dL_law_1394 ?_
      refine lv_fixi (y := 2) (by decide) ?_
      refine va_sld (i := 2) hx hb hX hbl hbA hS (by show ¬ (_ ∨ _); decide) dL_law_1395 ?_
      refine lv_fixi (y := (xs 2)) rfl ?_
      refine uVi (As := [.int (xs 1), .int (xs 2)]) (rest := []) (wr := [(q9, .inr (12, [.int 0, .int 4, .int 4, .ref (u11 0), .ref (u11 1), .ref (u11 2), .ref (u11 3), .int 0, .ref (u11 4), .ref (u11 5), .int 0, .ref (u11 6), .ref (u11 7), .ref (u11 8), .ref (u11 9), .ref (u11 10), .ref (u11 11), .ref (u11 12), .int 0, .ref (u11 13), .ref (u11 14), .ref (u11 15), .ref (u11 16), .ref (u11 17), .ref (u11 18), .int 0, .ref (u11 19), .int 0, .int 0, .int 0, .ref (u11 20), .int 0, .int 0, .ref (u11 21), .int 0, .ref (u11 60), .ref (u11 22), .ref (u11 23), .ref (u11 24), .ref (u11 61), .ref (u11 25), .ref (u11 26), .ref (u11 62), .ref (u11 63), .ref (u11 64), .ref (u11 27), .ref (u11 28), .ref (u11 29), .ref (u11 30), .ref (u11 31), .ref (u11 32), .ref (u11 33), .ref (u11 34), .ref (u11 35), .ref (u11 36), .ref (u11 37), .ref (u11 38), .ref (u11 65), .int 0, .int 0, .int 0, .int 0, .int 0, .long 0, .int 0, .int 0, .int 0, .int 0, .int 0, .int (-1), .int 0, .ref (u11 39), .ref (u11 40), .ref (u11 41), .ref (u11 42), .ref (u11 43), .int 0, .int 0, .ref (u11 44), .ref (u11 45), .ref (u11 46), .ref (u11 47), .ref (u11 48), .ref (u11 49), .ref (u11 50), .ref (u11 51), .int 0, .int 0, .int 0, .int 0, .ref (u11 52), .ref (u11 53), .int 0, .ref (u11 54), .ref (u11 55), .ref (u11 56), .ref (u11 57), .ref (u11 58), .ref (u11 59)]))]) [(q1, .inr (11, [.ref (u3 0), .ref (u3 7), .ref (u3 16), .ref (u3 17), .ref (u3 24), .ref (u3 27), .ref (u3 30), .ref (u3 33), .ref (u3 62), .ref (u3 77), .ref (u3 50)])), (u3 77, .inr (0, [.ref (u3 0), .ref (u3 7), .ref (u3 78), .ref (u3 91), .ref (u3 92), .ref (u3 93), .ref (u3 94), .ref (u3 95), .int 0]))] B hl.1 hP hD hS [0, 1] [2] rfl rfl rfl (kX11_supplied_172 l D K _ q1 (u3 77) (u3 0) (u3 7) (u3 16) (u3 17) (u3 24) (u3 27) (u3 30) (u3 33) (u3 62) (u3 50) (u3 78) (u3 91) (u3 92) (u3 93) (u3 94) (u3 95) (xs 1) (xs 2)) wd_X11_supplied mml_L_143 rfl rfl rfl rfl ⟨Nat.le_of_ble_eq_true rfl, Nat.le_of_ble_eq_true rfl⟩ (Nat.le_of_ble_eq_true rfl) ⟨Nat.le_of_ble_eq_true rfl, Nat.le_of_ble_eq_true rfl⟩ dL_law_1396 (fun r372 u H locs hw hP hD hS => ?_)
      try dsimp only at hw
      rcases hw with ⟨rfl, w373⟩
      have hP : va_P D vwCl [(q9, .inr (12, [.int 0, .int 4, .int 4, .ref (u11 0), .ref (u11 1), .ref (u11 2), .ref (u11 3), .int 0, .ref (u11 4), .ref (u11 5), .int 0, .ref (u11 6), .ref (u11 7), .ref (u11 8), .ref (u11 9), .ref (u11 10), .ref (u11 11), .ref (u11 12), .int 0, .ref (u11 13), .ref (u11 14), .ref (u11 15), .ref (u11 16), .ref (u11 17), .ref (u11 18), .int 0, .ref (u11 19), .int 0, .int 0, .int 0, .ref (u11 20), .int 0, .int 0, .ref (u11 21), .int 0, .ref (u11 60), .ref (u11 22), .ref (u11 23), .ref (u11 24), .ref (u11 61), .ref (u11 25), .ref (u11 26), .ref (u11 62), .ref (u11 63), .ref (u11 64), .ref (u11 27), .ref (u11 28), .ref (u11 29), .ref (u11 30), .ref (u11 31), .ref (u11 32), .ref (u11 33), .ref (u11 34), .ref (u11 35), .ref (u11 36), .ref (u11 37), .ref (u11 38), .ref (u11 65), .int 0, .int 0, .int 0, .int 0, .int 0, .long 0, .int 0, .int 0, .int 0, .int 0, .int 0, .int (-1), .int 0, .ref (u11 39), .ref (u11 40), .ref (u11 41), .ref (u11 42), .ref (u11 43), .int 0, .int 0, .ref (u11 44), .ref (u11 45), .ref (u11 46), .ref (u11 47), .ref (u11 48), .ref (u11 49), .ref (u11 50), .ref (u11 51), .int 0, .int 0, .int 0, .int 0, .ref (u11 52), .ref (u11 53), .int 0, .ref (u11 54), .ref (u11 55), .ref (u11 56), .ref (u11 57), .ref (u11 58), .ref (u11 59)]))] H := hP
      have hD : va_D A [(q9, .inr (12, [.int 0, .int 4, .int 4, .ref (u11 0), .ref (u11 1), .ref (u11 2), .ref (u11 3), .int 0, .ref (u11 4), .ref (u11 5), .int 0, .ref (u11 6), .ref (u11 7), .ref (u11 8), .ref (u11 9), .ref (u11 10), .ref (u11 11), .ref (u11 12), .int 0, .ref (u11 13), .ref (u11 14), .ref (u11 15), .ref (u11 16), .ref (u11 17), .ref (u11 18), .int 0, .ref (u11 19), .int 0, .int 0, .int 0, .ref (u11 20), .int 0, .int 0, .ref (u11 21), .int 0, .ref (u11 60), .ref (u11 22), .ref (u11 23), .ref (u11 24), .ref (u11 61), .ref (u11 25), .ref (u11 26), .ref (u11 62), .ref (u11 63), .ref (u11 64), .ref (u11 27), .ref (u11 28), .ref (u11 29), .ref (u11 30), .ref (u11 31), .ref (u11 32), .ref (u11 33), .ref (u11 34), .ref (u11 35), .ref (u11 36), .ref (u11 37), .ref (u11 38), .ref (u11 65), .int 0, .int 0, .int 0, .int 0, .int 0, .long 0, .int 0, .int 0, .int 0, .int 0, .int 0, .int (-1), .int 0, .ref (u11 39), .ref (u11 40), .ref (u11 41), .ref (u11 42), .ref (u11 43), .int 0, .int 0, .ref (u11 44), .ref (u11 45), .ref (u11 46), .ref (u11 47), .ref (u11 48), .ref (u11 49), .ref (u11 50), .ref (u11 51), .int 0, .int 0, .int 0, .int 0, .ref (u11 52), .ref (u11 53), .int 0, .ref (u11 54), .ref (u11 55), .ref (u11 56), .ref (u11 57), .ref (u11 58), .ref (u11 59)]))] := hD
      refine lv_pc (q := 1399) rfl ?_
      refine lv_aload_n hx hb dL_law_1399 rfl (lv_at hl 1 rfl) ?_
      refine lv_aload_n hx hb dL_law_1400 rfl (lv_at hl 3 rfl) ?_
      refine lv_iload_n hx hb dL_law_1401 rfl (lv_at hl 0 rfl) ?_
      refine lv_iconst (v := 1) hx hb dL_law_1402 (by decide) ?_
      refine lv_iadd hx hb dL_law_1403 ?_
      refine lv_fixi (y := 1) (by decide) ?_
      refine va_sld (i := 1) hx hb hX hbl hbA hS (by show ¬ (_ ∨ _); decide) dL_law_1404 ?_
      refine lv_fixi (y := (xs 1)) rfl ?_
      refine lv_pc (q := 1405) rfl ?_
      refine lv_aload_n hx hb dL_law_1405 rfl (lv_at hl 3 rfl) ?_
      refine lv_iload_n hx hb dL_law_1406 rfl (lv_at hl 0 rfl) ?_
      refine lv_iconst (v := 2) hx hb dL_law_1407 (by decide) ?_
      refine lv_iadd hx hb dL_law_1408 ?_
      refine lv_fixi (y := 2) (by decide) ?_
      refine va_sld (i := 2) hx hb hX hbl hbA hS (by show ¬ (_ ∨ _); decide) dL_law_1409 ?_
      refine lv_fixi (y := (xs 2)) rfl ?_
      refine uVi (As := [.int (xs 1), .int (xs 2)]) (rest := [.int (-1)]) (wr := []) [(q9, .inr (12, [.int 0, .int 4, .int 4, .ref (u11 0), .ref (u11 1), .ref (u11 2), .ref (u11 3), .int 0, .ref (u11 4), .ref (u11 5), .int 0, .ref (u11 6), .ref (u11 7), .ref (u11 8), .ref (u11 9), .ref (u11 10), .ref (u11 11), .ref (u11 12), .int 0, .ref (u11 13), .ref (u11 14), .ref (u11 15), .ref (u11 16), .ref (u11 17), .ref (u11 18), .int 0, .ref (u11 19), .int 0, .int 0, .int 0, .ref (u11 20), .int 0, .int 0, .ref (u11 21), .int 0, .ref (u11 60), .ref (u11 22), .ref (u11 23), .ref (u11 24), .ref (u11 61), .ref (u11 25), .ref (u11 26), .ref (u11 62), .ref (u11 63), .ref (u11 64), .ref (u11 27), .ref (u11 28), .ref (u11 29), .ref (u11 30), .ref (u11 31), .ref (u11 32), .ref (u11 33), .ref (u11 34), .ref (u11 35), .ref (u11 36), .ref (u11 37), .ref (u11 38), .ref (u11 65), .int 0, .int 0, .int 0, .int 0, .int 0, .long 0, .int 0, .int 0, .int 0, .int 0, .int 0, .int (-1), .int 0, .ref (u11 39), .ref (u11 40), .ref (u11 41), .ref (u11 42), .ref (u11 43), .int 0, .int 0, .ref (u11 44), .ref (u11 45), .ref (u11 46), .ref (u11 47), .ref (u11 48), .ref (u11 49), .ref (u11 50), .ref (u11 51), .int 0, .int 0, .int 0, .int 0, .ref (u11 52), .ref (u11 53), .int 0, .ref (u11 54), .ref (u11 55), .ref (u11 56), .ref (u11 57), .ref (u11 58), .ref (u11 59)]))] B hl.1 hP hD hS [0] [] rfl rfl rfl (kX12_supplied_173 l D K _ q9 (u11 0) (u11 1) (u11 2) (u11 3) (u11 4) (u11 5) (u11 6) (u11 7) (u11 8) (u11 9) (u11 10) (u11 11) (u11 12) (u11 13) (u11 14) (u11 15) (u11 16) (u11 17) (u11 18) (u11 19) (u11 20) (u11 21) (u11 60) (u11 22) (u11 23) (u11 24) (u11 61) (u11 25) (u11 26) (u11 62) (u11 63) (u11 64) (u11 27) (u11 28) (u11 29) (u11 30) (u11 31) (u11 32) (u11 33) (u11 34) (u11 35) (u11 36) (u11 37) (u11 38) (u11 65) (u11 39) (u11 40) (u11 41) (u11 42) (u11 43) (u11 44) (u11 45) (u11 46) (u11 47) (u11 48) (u11 49) (u11 50) (u11 51) (u11 52) (u11 53) (u11 54) (u11 55) (u11 56) (u11 57) (u11 58) (u11 59) (xs 1) (xs 2)) wd_X12_supplied mml_L_146 rfl rfl rfl rfl ⟨Nat.le_of_ble_eq_true rfl, Nat.le_of_ble_eq_true rfl⟩ (Nat.le_of_ble_eq_true rfl) ⟨Nat.le_of_ble_eq_true rfl, Nat.le_of_ble_eq_true rfl⟩ dL_law_1410 (fun r374 u H locs hw hP hD hS => ?_)
      try dsimp only at hw
      rcases hw with rfl
      have hP : va_P D vwCl [] H := hP
      have hD : va_D A [] := hD
      refine lv_pc (q := 1413) rfl ?_
      refine lv_icmp_eq (tgt := 1474) hx hb dL_law_1413 (by decide) (fun _ => ?_) (fun h9 => absurd (by decide) h9)
      refine lv_iinc (v := 7) (lv' := [(3, .int 7), (2, .ref q9), (1, .ref q1), (0, .ref b)]) hx hb dL_law_1474 hl (k := 0) rfl (by decide) (by decide) rfl (fun ls hl => ?_)
      refine lv_goto (tgt := 18) hx hb dL_law_1477 (by decide) ?_
      refine lv_iload_n hx hb dL_law_18 rfl (lv_at hl 0 rfl) ?_
      refine lv_aload_n hx hb dL_law_19 rfl (lv_at hl 3 rfl) ?_
      refine va_slen hx hb hX hbl hbA hS dL_law_20 ?_
      refine lv_fixi (y := 7) (by decide) ?_
      refine lv_pc (q := 21) rfl ?_
      refine lv_bipush (v := 7) hx hb dL_law_21 (by decide) ?_
      refine lv_isub hx hb dL_law_23 ?_
      refine lv_fixi (y := 0) (by decide) ?_
      refine lv_icmp_gt (tgt := 1480) hx hb dL_law_24 (by decide) (fun _ => ?_) (fun h9 => absurd (by decide) h9)
      refine lv_iconst (v := 1) hx hb dL_law_1480 (by decide) ?_
      refine va_forget (fun q hq => by have h9 := hS.2.2 q hq; rw [hAe] at h9; exact h9) ?_
      refine W.widen (k := 600000) (n := 7302250) (by decide) (by decide) ?_
      exact lw_ret hx hb hr hlocks dL_law_1481
    · refine lv_fixi (y := 30) ejj ?_
      refine lv_tableIn (off := 1385) (tgt := 1418) hx hb dL_law_33 (by decide) (by decide) rfl (by decide) ?_
      replace hP := uSub (wc := [(q1, .inr (11, [.ref (u3 0), .ref (u3 7), .ref (u3 16), .ref (u3 17), .ref (u3 24), .ref (u3 27), .ref (u3 30), .ref (u3 33), .ref (u3 62), .ref (u3 77), .ref (u3 50)])), (u3 7, .inr (4, [.ref (u3 0), .ref (u3 8), .ref (u3 9), .ref (u3 10), .ref (u3 11), .ref (u3 12), .ref (u3 13), .ref (u3 14), .ref (u3 15), .int 0])), (q9, .inr (12, [.int 0, .int 4, .int 4, .ref (u11 0), .ref (u11 1), .ref (u11 2), .ref (u11 3), .int 0, .ref (u11 4), .ref (u11 5), .int 0, .ref (u11 6), .ref (u11 7), .ref (u11 8), .ref (u11 9), .ref (u11 10), .ref (u11 11), .ref (u11 12), .int 0, .ref (u11 13), .ref (u11 14), .ref (u11 15), .ref (u11 16), .ref (u11 17), .ref (u11 18), .int 0, .ref (u11 19), .int 0, .int 0, .int 0, .ref (u11 20), .int 0, .int 0, .ref (u11 21), .int 0, .ref (u11 60), .ref (u11 22), .ref (u11 23), .ref (u11 24), .ref (u11 61), .ref (u11 25), .ref (u11 26), .ref (u11 62), .ref (u11 63), .ref (u11 64), .ref (u11 27), .ref (u11 28), .ref (u11 29), .ref (u11 30), .ref (u11 31), .ref (u11 32), .ref (u11 33), .ref (u11 34), .ref (u11 35), .ref (u11 36), .ref (u11 37), .ref (u11 38), .ref (u11 65), .int 0, .int 0, .int 0, .int 0, .int 0, .long 0, .int 0, .int 0, .int 0, .int 0, .int 0, .int (-1), .int 0, .ref (u11 39), .ref (u11 40), .ref (u11 41), .ref (u11 42), .ref (u11 43), .int 0, .int 0, .ref (u11 44), .ref (u11 45), .ref (u11 46), .ref (u11 47), .ref (u11 48), .ref (u11 49), .ref (u11 50), .ref (u11 51), .int 0, .int 0, .int 0, .int 0, .ref (u11 52), .ref (u11 53), .int 0, .ref (u11 54), .ref (u11 55), .ref (u11 56), .ref (u11 57), .ref (u11 58), .ref (u11 59)]))]) hP [0, 8, 97] rfl
      replace hD := hD.sub (ws' := [(q1, .inr (11, [.ref (u3 0), .ref (u3 7), .ref (u3 16), .ref (u3 17), .ref (u3 24), .ref (u3 27), .ref (u3 30), .ref (u3 33), .ref (u3 62), .ref (u3 77), .ref (u3 50)])), (u3 7, .inr (4, [.ref (u3 0), .ref (u3 8), .ref (u3 9), .ref (u3 10), .ref (u3 11), .ref (u3 12), .ref (u3 13), .ref (u3 14), .ref (u3 15), .int 0])), (q9, .inr (12, [.int 0, .int 4, .int 4, .ref (u11 0), .ref (u11 1), .ref (u11 2), .ref (u11 3), .int 0, .ref (u11 4), .ref (u11 5), .int 0, .ref (u11 6), .ref (u11 7), .ref (u11 8), .ref (u11 9), .ref (u11 10), .ref (u11 11), .ref (u11 12), .int 0, .ref (u11 13), .ref (u11 14), .ref (u11 15), .ref (u11 16), .ref (u11 17), .ref (u11 18), .int 0, .ref (u11 19), .int 0, .int 0, .int 0, .ref (u11 20), .int 0, .int 0, .ref (u11 21), .int 0, .ref (u11 60), .ref (u11 22), .ref (u11 23), .ref (u11 24), .ref (u11 61), .ref (u11 25), .ref (u11 26), .ref (u11 62), .ref (u11 63), .ref (u11 64), .ref (u11 27), .ref (u11 28), .ref (u11 29), .ref (u11 30), .ref (u11 31), .ref (u11 32), .ref (u11 33), .ref (u11 34), .ref (u11 35), .ref (u11 36), .ref (u11 37), .ref (u11 38), .ref (u11 65), .int 0, .int 0, .int 0, .int 0, .int 0, .long 0, .int 0, .int 0, .int 0, .int 0, .int 0, .int (-1), .int 0, .ref (u11 39), .ref (u11 40), .ref (u11 41), .ref (u11 42), .ref (u11 43), .int 0, .int 0, .ref (u11 44), .ref (u11 45), .ref (u11 46), .ref (u11 47), .ref (u11 48), .ref (u11 49), .ref (u11 50), .ref (u11 51), .int 0, .int 0, .int 0, .int 0, .ref (u11 52), .ref (u11 53), .int 0, .ref (u11 54), .ref (u11 55), .ref (u11 56), .ref (u11 57), .ref (u11 58), .ref (u11 59)]))]) [0, 8, 97] rfl rfl
      refine lv_pc (q := 1418) rfl ?_
      refine lv_aload_n hx hb dL_law_1418 rfl (lv_at hl 2 rfl) ?_
      refine lv_aload_n hx hb dL_law_1419 rfl (lv_at hl 3 rfl) ?_
      refine lv_iload_n hx hb dL_law_1420 rfl (lv_at hl 0 rfl) ?_
      refine lv_iconst (v := 1) hx hb dL_law_1421 (by decide) ?_
      refine lv_iadd hx hb dL_law_1422 ?_
      refine lv_fixi (y := 1) (by decide) ?_
      refine va_sld (i := 1) hx hb hX hbl hbA hS (by show ¬ (_ ∨ _); decide) dL_law_1423 ?_
      refine lv_fixi (y := (xs 1)) rfl ?_
      refine lv_pc (q := 1424) rfl ?_
      refine lv_aload_n hx hb dL_law_1424 rfl (lv_at hl 3 rfl) ?_
      refine lv_iload_n hx hb dL_law_1425 rfl (lv_at hl 0 rfl) ?_
      refine lv_iconst (v := 2) hx hb dL_law_1426 (by decide) ?_
      refine lv_iadd hx hb dL_law_1427 ?_
      refine lv_fixi (y := 2) (by decide) ?_
      refine va_sld (i := 2) hx hb hX hbl hbA hS (by show ¬ (_ ∨ _); decide) dL_law_1428 ?_
      refine lv_fixi (y := (xs 2)) rfl ?_
      refine uVi (As := [.int (xs 1), .int (xs 2)]) (rest := []) (wr := [(q9, .inr (12, [.int 0, .int 4, .int 4, .ref (u11 0), .ref (u11 1), .ref (u11 2), .ref (u11 3), .int 0, .ref (u11 4), .ref (u11 5), .int 0, .ref (u11 6), .ref (u11 7), .ref (u11 8), .ref (u11 9), .ref (u11 10), .ref (u11 11), .ref (u11 12), .int 0, .ref (u11 13), .ref (u11 14), .ref (u11 15), .ref (u11 16), .ref (u11 17), .ref (u11 18), .int 0, .ref (u11 19), .int 0, .int 0, .int 0, .ref (u11 20), .int 0, .int 0, .ref (u11 21), .int 0, .ref (u11 60), .ref (u11 22), .ref (u11 23), .ref (u11 24), .ref (u11 61), .ref (u11 25), .ref (u11 26), .ref (u11 62), .ref (u11 63), .ref (u11 64), .ref (u11 27), .ref (u11 28), .ref (u11 29), .ref (u11 30), .ref (u11 31), .ref (u11 32), .ref (u11 33), .ref (u11 34), .ref (u11 35), .ref (u11 36), .ref (u11 37), .ref (u11 38), .ref (u11 65), .int 0, .int 0, .int 0, .int 0, .int 0, .long 0, .int 0, .int 0, .int 0, .int 0, .int 0, .int (-1), .int 0, .ref (u11 39), .ref (u11 40), .ref (u11 41), .ref (u11 42), .ref (u11 43), .int 0, .int 0, .ref (u11 44), .ref (u11 45), .ref (u11 46), .ref (u11 47), .ref (u11 48), .ref (u11 49), .ref (u11 50), .ref (u11 51), .int 0, .int 0, .int 0, .int 0, .ref (u11 52), .ref (u11 53), .int 0, .ref (u11 54), .ref (u11 55), .ref (u11 56), .ref (u11 57), .ref (u11 58), .ref (u11 59)]))]) [(q1, .inr (11, [.ref (u3 0), .ref (u3 7), .ref (u3 16), .ref (u3 17), .ref (u3 24), .ref (u3 27), .ref (u3 30), .ref (u3 33), .ref (u3 62), .ref (u3 77), .ref (u3 50)])), (u3 7, .inr (4, [.ref (u3 0), .ref (u3 8), .ref (u3 9), .ref (u3 10), .ref (u3 11), .ref (u3 12), .ref (u3 13), .ref (u3 14), .ref (u3 15), .int 0]))] B hl.1 hP hD hS [0, 1] [2] rfl rfl rfl (kX11_look_174 l D K _ q1 (u3 7) (u3 0) (u3 16) (u3 17) (u3 24) (u3 27) (u3 30) (u3 33) (u3 62) (u3 77) (u3 50) (u3 8) (u3 9) (u3 10) (u3 11) (u3 12) (u3 13) (u3 14) (u3 15) (xs 1) (xs 2)) wd_X11_look mml_L_147 rfl rfl rfl rfl ⟨Nat.le_of_ble_eq_true rfl, Nat.le_of_ble_eq_true rfl⟩ (Nat.le_of_ble_eq_true rfl) ⟨Nat.le_of_ble_eq_true rfl, Nat.le_of_ble_eq_true rfl⟩ dL_law_1429 (fun r375 u H locs hw hP hD hS => ?_)
      try dsimp only at hw
      rcases hw with ⟨rfl, w376⟩
      have hP : va_P D vwCl [(q9, .inr (12, [.int 0, .int 4, .int 4, .ref (u11 0), .ref (u11 1), .ref (u11 2), .ref (u11 3), .int 0, .ref (u11 4), .ref (u11 5), .int 0, .ref (u11 6), .ref (u11 7), .ref (u11 8), .ref (u11 9), .ref (u11 10), .ref (u11 11), .ref (u11 12), .int 0, .ref (u11 13), .ref (u11 14), .ref (u11 15), .ref (u11 16), .ref (u11 17), .ref (u11 18), .int 0, .ref (u11 19), .int 0, .int 0, .int 0, .ref (u11 20), .int 0, .int 0, .ref (u11 21), .int 0, .ref (u11 60), .ref (u11 22), .ref (u11 23), .ref (u11 24), .ref (u11 61), .ref (u11 25), .ref (u11 26), .ref (u11 62), .ref (u11 63), .ref (u11 64), .ref (u11 27), .ref (u11 28), .ref (u11 29), .ref (u11 30), .ref (u11 31), .ref (u11 32), .ref (u11 33), .ref (u11 34), .ref (u11 35), .ref (u11 36), .ref (u11 37), .ref (u11 38), .ref (u11 65), .int 0, .int 0, .int 0, .int 0, .int 0, .long 0, .int 0, .int 0, .int 0, .int 0, .int 0, .int (-1), .int 0, .ref (u11 39), .ref (u11 40), .ref (u11 41), .ref (u11 42), .ref (u11 43), .int 0, .int 0, .ref (u11 44), .ref (u11 45), .ref (u11 46), .ref (u11 47), .ref (u11 48), .ref (u11 49), .ref (u11 50), .ref (u11 51), .int 0, .int 0, .int 0, .int 0, .ref (u11 52), .ref (u11 53), .int 0, .ref (u11 54), .ref (u11 55), .ref (u11 56), .ref (u11 57), .ref (u11 58), .ref (u11 59)]))] H := hP
      have hD : va_D A [(q9, .inr (12, [.int 0, .int 4, .int 4, .ref (u11 0), .ref (u11 1), .ref (u11 2), .ref (u11 3), .int 0, .ref (u11 4), .ref (u11 5), .int 0, .ref (u11 6), .ref (u11 7), .ref (u11 8), .ref (u11 9), .ref (u11 10), .ref (u11 11), .ref (u11 12), .int 0, .ref (u11 13), .ref (u11 14), .ref (u11 15), .ref (u11 16), .ref (u11 17), .ref (u11 18), .int 0, .ref (u11 19), .int 0, .int 0, .int 0, .ref (u11 20), .int 0, .int 0, .ref (u11 21), .int 0, .ref (u11 60), .ref (u11 22), .ref (u11 23), .ref (u11 24), .ref (u11 61), .ref (u11 25), .ref (u11 26), .ref (u11 62), .ref (u11 63), .ref (u11 64), .ref (u11 27), .ref (u11 28), .ref (u11 29), .ref (u11 30), .ref (u11 31), .ref (u11 32), .ref (u11 33), .ref (u11 34), .ref (u11 35), .ref (u11 36), .ref (u11 37), .ref (u11 38), .ref (u11 65), .int 0, .int 0, .int 0, .int 0, .int 0, .long 0, .int 0, .int 0, .int 0, .int 0, .int 0, .int (-1), .int 0, .ref (u11 39), .ref (u11 40), .ref (u11 41), .ref (u11 42), .ref (u11 43), .int 0, .int 0, .ref (u11 44), .ref (u11 45), .ref (u11 46), .ref (u11 47), .ref (u11 48), .ref (u11 49), .ref (u11 50), .ref (u11 51), .int 0, .int 0, .int 0, .int 0, .ref (u11 52), .ref (u11 53), .int 0, .ref (u11 54), .ref (u11 55), .ref (u11 56), .ref (u11 57), .ref (u11 58), .ref (u11 59)]))] := hD
      refine lv_pc (q := 1432) rfl ?_
      refine lv_aload_n hx hb dL_law_1432 rfl (lv_at hl 1 rfl) ?_
      refine lv_aload_n hx hb dL_law_1433 rfl (lv_at hl 3 rfl) ?_
      refine lv_iload_n hx hb dL_law_1434 rfl (lv_at hl 0 rfl) ?_
      refine lv_iconst (v := 1) hx hb dL_law_1435 (by decide) ?_
      refine lv_iadd hx hb dL_law_1436 ?_
      refine lv_fixi (y := 1) (by decide) ?_
      refine va_sld (i := 1) hx hb hX hbl hbA hS (by show ¬ (_ ∨ _); decide) dL_law_1437 ?_
      refine lv_fixi (y := (xs 1)) rfl ?_
      refine lv_pc (q := 1438) rfl ?_
      refine lv_aload_n hx hb dL_law_1438 rfl (lv_at hl 3 rfl) ?_
      refine lv_iload_n hx hb dL_law_1439 rfl (lv_at hl 0 rfl) ?_
      refine lv_iconst (v := 2) hx hb dL_law_1440 (by decide) ?_
      refine lv_iadd hx hb dL_law_1441 ?_
      refine lv_fixi (y := 2) (by decide) ?_
      refine va_sld (i := 2) hx hb hX hbl hbA hS (by show ¬ (_ ∨ _); decide) dL_law_1442 ?_
      refine lv_fixi (y := (xs 2)) rfl ?_
      refine uVi (As := [.int (xs 1), .int (xs 2)]) (rest := [.int (-1)]) (wr := []) [(q9, .inr (12, [.int 0, .int 4, .int 4, .ref (u11 0), .ref (u11 1), .ref (u11 2), .ref (u11 3), .int 0, .ref (u11 4), .ref (u11 5), .int 0, .ref (u11 6), .ref (u11 7), .ref (u11 8), .ref (u11 9), .ref (u11 10), .ref (u11 11), .ref (u11 12), .int 0, .ref (u11 13), .ref (u11 14), .ref (u11 15), .ref (u11 16), .ref (u11 17), .ref (u11 18), .int 0, .ref (u11 19), .int 0, .int 0, .int 0, .ref (u11 20), .int 0, .int 0, .ref (u11 21), .int 0, .ref (u11 60), .ref (u11 22), .ref (u11 23), .ref (u11 24), .ref (u11 61), .ref (u11 25), .ref (u11 26), .ref (u11 62), .ref (u11 63), .ref (u11 64), .ref (u11 27), .ref (u11 28), .ref (u11 29), .ref (u11 30), .ref (u11 31), .ref (u11 32), .ref (u11 33), .ref (u11 34), .ref (u11 35), .ref (u11 36), .ref (u11 37), .ref (u11 38), .ref (u11 65), .int 0, .int 0, .int 0, .int 0, .int 0, .long 0, .int 0, .int 0, .int 0, .int 0, .int 0, .int (-1), .int 0, .ref (u11 39), .ref (u11 40), .ref (u11 41), .ref (u11 42), .ref (u11 43), .int 0, .int 0, .ref (u11 44), .ref (u11 45), .ref (u11 46), .ref (u11 47), .ref (u11 48), .ref (u11 49), .ref (u11 50), .ref (u11 51), .int 0, .int 0, .int 0, .int 0, .ref (u11 52), .ref (u11 53), .int 0, .ref (u11 54), .ref (u11 55), .ref (u11 56), .ref (u11 57), .ref (u11 58), .ref (u11 59)]))] B hl.1 hP hD hS [0] [] rfl rfl rfl (kX12_look_175 l D K _ q9 (u11 0) (u11 1) (u11 2) (u11 3) (u11 4) (u11 5) (u11 6) (u11 7) (u11 8) (u11 9) (u11 10) (u11 11) (u11 12) (u11 13) (u11 14) (u11 15) (u11 16) (u11 17) (u11 18) (u11 19) (u11 20) (u11 21) (u11 60) (u11 22) (u11 23) (u11 24) (u11 61) (u11 25) (u11 26) (u11 62) (u11 63) (u11 64) (u11 27) (u11 28) (u11 29) (u11 30) (u11 31) (u11 32) (u11 33) (u11 34) (u11 35) (u11 36) (u11 37) (u11 38) (u11 65) (u11 39) (u11 40) (u11 41) (u11 42) (u11 43) (u11 44) (u11 45) (u11 46) (u11 47) (u11 48) (u11 49) (u11 50) (u11 51) (u11 52) (u11 53) (u11 54) (u11 55) (u11 56) (u11 57) (u11 58) (u11 59) (xs 1) (xs 2)) wd_X12_look mml_L_150 rfl rfl rfl rfl ⟨Nat.le_of_ble_eq_true rfl, Nat.le_of_ble_eq_true rfl⟩ (Nat.le_of_ble_eq_true rfl) ⟨Nat.le_of_ble_eq_true rfl, Nat.le_of_ble_eq_true rfl⟩ dL_law_1443 (fun r377 u H locs hw hP hD hS => ?_)
      try dsimp only at hw
      rcases hw with ⟨rfl, w378⟩
      have hP : va_P D vwCl [] H := hP
      have hD : va_D A [] := hD
      refine lv_pc (q := 1446) rfl ?_
      refine lv_icmp_eq (tgt := 1474) hx hb dL_law_1446 (by decide) (fun _ => ?_) (fun h9 => absurd (by decide) h9)
      refine lv_iinc (v := 7) (lv' := [(3, .int 7), (2, .ref q9), (1, .ref q1), (0, .ref b)]) hx hb dL_law_1474 hl (k := 0) rfl (by decide) (by decide) rfl (fun ls hl => ?_)
      refine lv_goto (tgt := 18) hx hb dL_law_1477 (by decide) ?_
      refine lv_iload_n hx hb dL_law_18 rfl (lv_at hl 0 rfl) ?_
      refine lv_aload_n hx hb dL_law_19 rfl (lv_at hl 3 rfl) ?_
      refine va_slen hx hb hX hbl hbA hS dL_law_20 ?_
      refine lv_fixi (y := 7) (by decide) ?_
      refine lv_pc (q := 21) rfl ?_
      refine lv_bipush (v := 7) hx hb dL_law_21 (by decide) ?_
      refine lv_isub hx hb dL_law_23 ?_
      refine lv_fixi (y := 0) (by decide) ?_
      refine lv_icmp_gt (tgt := 1480) hx hb dL_law_24 (by decide) (fun _ => ?_) (fun h9 => absurd (by decide) h9)
      refine lv_iconst (v := 1) hx hb dL_law_1480 (by decide) ?_
      refine va_forget (fun q hq => by have h9 := hS.2.2 q hq; rw [hAe] at h9; exact h9) ?_
      refine W.widen (k := 600000) (n := 7302250) (by decide) (by decide) ?_
      exact lw_ret hx hb hr hlocks dL_law_1481
    · refine lv_fixi (y := 31) ejj ?_
      refine lv_tableIn (off := 1418) (tgt := 1451) hx hb dL_law_33 (by decide) (by decide) rfl (by decide) ?_
      replace hP := uSub (wc := [(q1, .inr (11, [.ref (u3 0), .ref (u3 7), .ref (u3 16), .ref (u3 17), .ref (u3 24), .ref (u3 27), .ref (u3 30), .ref (u3 33), .ref (u3 62), .ref (u3 77), .ref (u3 50)])), (u3 0, .inr (9, [.ref (u3 1), .ref (u3 2), .ref (u3 3), .ref (u3 4), .ref (u3 5), .ref (u3 6), .int 4, .int 4, .int 0])), (u3 7, .inr (4, [.ref (u3 0), .ref (u3 8), .ref (u3 9), .ref (u3 10), .ref (u3 11), .ref (u3 12), .ref (u3 13), .ref (u3 14), .ref (u3 15), .int 0])), (u3 17, .inr (3, [.ref (u3 18), .ref (u3 19), .ref (u3 20), .ref (u3 21), .ref (u3 22), .ref (u3 23), .int 0, .int (-1), .int 1, .int 0])), (u3 50, .inr (7, [.ref (u3 51), .ref (u3 52), .ref (u3 53), .ref (u3 54), .ref (u3 55), .ref (u3 56), .ref (u3 57), .ref (u3 58), .ref (u3 59), .ref (u3 60), .ref (u3 61), .int 0, .int 0, .int 0, .int 2, .int 1])), (q9, .inr (12, [.int 0, .int 4, .int 4, .ref (u11 0), .ref (u11 1), .ref (u11 2), .ref (u11 3), .int 0, .ref (u11 4), .ref (u11 5), .int 0, .ref (u11 6), .ref (u11 7), .ref (u11 8), .ref (u11 9), .ref (u11 10), .ref (u11 11), .ref (u11 12), .int 0, .ref (u11 13), .ref (u11 14), .ref (u11 15), .ref (u11 16), .ref (u11 17), .ref (u11 18), .int 0, .ref (u11 19), .int 0, .int 0, .int 0, .ref (u11 20), .int 0, .int 0, .ref (u11 21), .int 0, .ref (u11 60), .ref (u11 22), .ref (u11 23), .ref (u11 24), .ref (u11 61), .ref (u11 25), .ref (u11 26), .ref (u11 62), .ref (u11 63), .ref (u11 64), .ref (u11 27), .ref (u11 28), .ref (u11 29), .ref (u11 30), .ref (u11 31), .ref (u11 32), .ref (u11 33), .ref (u11 34), .ref (u11 35), .ref (u11 36), .ref (u11 37), .ref (u11 38), .ref (u11 65), .int 0, .int 0, .int 0, .int 0, .int 0, .long 0, .int 0, .int 0, .int 0, .int 0, .int 0, .int (-1), .int 0, .ref (u11 39), .ref (u11 40), .ref (u11 41), .ref (u11 42), .ref (u11 43), .int 0, .int 0, .ref (u11 44), .ref (u11 45), .ref (u11 46), .ref (u11 47), .ref (u11 48), .ref (u11 49), .ref (u11 50), .ref (u11 51), .int 0, .int 0, .int 0, .int 0, .ref (u11 52), .ref (u11 53), .int 0, .ref (u11 54), .ref (u11 55), .ref (u11 56), .ref (u11 57), .ref (u11 58), .ref (u11 59)])), (u11 60, .inl (K 0, 2, .inl u14)), (u11 62, .inl (K 0, 2, .inl u16)), (u11 63, .inl (K 0, 2, .inl u17)), (u11 64, .inl (K 0, 2, .inl u18))]) hP [0, 1, 8, 18, 51, 97, 158, 160, 161, 162] rfl
      replace hD := hD.sub (ws' := [(q1, .inr (11, [.ref (u3 0), .ref (u3 7), .ref (u3 16), .ref (u3 17), .ref (u3 24), .ref (u3 27), .ref (u3 30), .ref (u3 33), .ref (u3 62), .ref (u3 77), .ref (u3 50)])), (u3 0, .inr (9, [.ref (u3 1), .ref (u3 2), .ref (u3 3), .ref (u3 4), .ref (u3 5), .ref (u3 6), .int 4, .int 4, .int 0])), (u3 7, .inr (4, [.ref (u3 0), .ref (u3 8), .ref (u3 9), .ref (u3 10), .ref (u3 11), .ref (u3 12), .ref (u3 13), .ref (u3 14), .ref (u3 15), .int 0])), (u3 17, .inr (3, [.ref (u3 18), .ref (u3 19), .ref (u3 20), .ref (u3 21), .ref (u3 22), .ref (u3 23), .int 0, .int (-1), .int 1, .int 0])), (u3 50, .inr (7, [.ref (u3 51), .ref (u3 52), .ref (u3 53), .ref (u3 54), .ref (u3 55), .ref (u3 56), .ref (u3 57), .ref (u3 58), .ref (u3 59), .ref (u3 60), .ref (u3 61), .int 0, .int 0, .int 0, .int 2, .int 1])), (q9, .inr (12, [.int 0, .int 4, .int 4, .ref (u11 0), .ref (u11 1), .ref (u11 2), .ref (u11 3), .int 0, .ref (u11 4), .ref (u11 5), .int 0, .ref (u11 6), .ref (u11 7), .ref (u11 8), .ref (u11 9), .ref (u11 10), .ref (u11 11), .ref (u11 12), .int 0, .ref (u11 13), .ref (u11 14), .ref (u11 15), .ref (u11 16), .ref (u11 17), .ref (u11 18), .int 0, .ref (u11 19), .int 0, .int 0, .int 0, .ref (u11 20), .int 0, .int 0, .ref (u11 21), .int 0, .ref (u11 60), .ref (u11 22), .ref (u11 23), .ref (u11 24), .ref (u11 61), .ref (u11 25), .ref (u11 26), .ref (u11 62), .ref (u11 63), .ref (u11 64), .ref (u11 27), .ref (u11 28), .ref (u11 29), .ref (u11 30), .ref (u11 31), .ref (u11 32), .ref (u11 33), .ref (u11 34), .ref (u11 35), .ref (u11 36), .ref (u11 37), .ref (u11 38), .ref (u11 65), .int 0, .int 0, .int 0, .int 0, .int 0, .long 0, .int 0, .int 0, .int 0, .int 0, .int 0, .int (-1), .int 0, .ref (u11 39), .ref (u11 40), .ref (u11 41), .ref (u11 42), .ref (u11 43), .int 0, .int 0, .ref (u11 44), .ref (u11 45), .ref (u11 46), .ref (u11 47), .ref (u11 48), .ref (u11 49), .ref (u11 50), .ref (u11 51), .int 0, .int 0, .int 0, .int 0, .ref (u11 52), .ref (u11 53), .int 0, .ref (u11 54), .ref (u11 55), .ref (u11 56), .ref (u11 57), .ref (u11 58), .ref (u11 59)])), (u11 60, .inl (K 0, 2, .inl u14)), (u11 62, .inl (K 0, 2, .inl u16)), (u11 63, .inl (K 0, 2, .inl u17)), (u11 64, .inl (K 0, 2, .inl u18))]) [0, 1, 8, 18, 51, 97, 158, 160, 161, 162] rfl rfl
      refine lv_pc (q := 1451) rfl ?_
      refine lv_aload_n hx hb dL_law_1451 rfl (lv_at hl 2 rfl) ?_
      refine lv_aload_n hx hb dL_law_1452 rfl (lv_at hl 3 rfl) ?_
      refine lv_iload_n hx hb dL_law_1453 rfl (lv_at hl 0 rfl) ?_
      refine lv_iconst (v := 1) hx hb dL_law_1454 (by decide) ?_
      refine lv_iadd hx hb dL_law_1455 ?_
      refine lv_fixi (y := 1) (by decide) ?_
      refine va_sld (i := 1) hx hb hX hbl hbA hS (by show ¬ (_ ∨ _); decide) dL_law_1456 ?_
      refine lv_fixi (y := (xs 1)) rfl ?_
      refine lv_pc (q := 1457) rfl ?_
      refine uVi (As := [.int (xs 1)]) (rest := []) (wr := [(q9, .inr (12, [.int 0, .int 4, .int 4, .ref (u11 0), .ref (u11 1), .ref (u11 2), .ref (u11 3), .int 0, .ref (u11 4), .ref (u11 5), .int 0, .ref (u11 6), .ref (u11 7), .ref (u11 8), .ref (u11 9), .ref (u11 10), .ref (u11 11), .ref (u11 12), .int 0, .ref (u11 13), .ref (u11 14), .ref (u11 15), .ref (u11 16), .ref (u11 17), .ref (u11 18), .int 0, .ref (u11 19), .int 0, .int 0, .int 0, .ref (u11 20), .int 0, .int 0, .ref (u11 21), .int 0, .ref (u11 60), .ref (u11 22), .ref (u11 23), .ref (u11 24), .ref (u11 61), .ref (u11 25), .ref (u11 26), .ref (u11 62), .ref (u11 63), .ref (u11 64), .ref (u11 27), .ref (u11 28), .ref (u11 29), .ref (u11 30), .ref (u11 31), .ref (u11 32), .ref (u11 33), .ref (u11 34), .ref (u11 35), .ref (u11 36), .ref (u11 37), .ref (u11 38), .ref (u11 65), .int 0, .int 0, .int 0, .int 0, .int 0, .long 0, .int 0, .int 0, .int 0, .int 0, .int 0, .int (-1), .int 0, .ref (u11 39), .ref (u11 40), .ref (u11 41), .ref (u11 42), .ref (u11 43), .int 0, .int 0, .ref (u11 44), .ref (u11 45), .ref (u11 46), .ref (u11 47), .ref (u11 48), .ref (u11 49), .ref (u11 50), .ref (u11 51), .int 0, .int 0, .int 0, .int 0, .ref (u11 52), .ref (u11 53), .int 0, .ref (u11 54), .ref (u11 55), .ref (u11 56), .ref (u11 57), .ref (u11 58), .ref (u11 59)])), (u11 60, .inl (K 0, 2, .inl u14)), (u11 62, .inl (K 0, 2, .inl u16)), (u11 63, .inl (K 0, 2, .inl u17)), (u11 64, .inl (K 0, 2, .inl u18))]) [(q1, .inr (11, [.ref (u3 0), .ref (u3 7), .ref (u3 16), .ref (u3 17), .ref (u3 24), .ref (u3 27), .ref (u3 30), .ref (u3 33), .ref (u3 62), .ref (u3 77), .ref (u3 50)])), (u3 0, .inr (9, [.ref (u3 1), .ref (u3 2), .ref (u3 3), .ref (u3 4), .ref (u3 5), .ref (u3 6), .int 4, .int 4, .int 0])), (u3 7, .inr (4, [.ref (u3 0), .ref (u3 8), .ref (u3 9), .ref (u3 10), .ref (u3 11), .ref (u3 12), .ref (u3 13), .ref (u3 14), .ref (u3 15), .int 0])), (u3 17, .inr (3, [.ref (u3 18), .ref (u3 19), .ref (u3 20), .ref (u3 21), .ref (u3 22), .ref (u3 23), .int 0, .int (-1), .int 1, .int 0])), (u3 50, .inr (7, [.ref (u3 51), .ref (u3 52), .ref (u3 53), .ref (u3 54), .ref (u3 55), .ref (u3 56), .ref (u3 57), .ref (u3 58), .ref (u3 59), .ref (u3 60), .ref (u3 61), .int 0, .int 0, .int 0, .int 2, .int 1]))] B hl.1 hP hD hS [0, 1, 2, 3, 4] [5, 6, 7, 8, 9] rfl rfl rfl (kX11_count_176 l D K _ q1 (u3 0) (u3 7) (u3 17) (u3 50) (u3 16) (u3 24) (u3 27) (u3 30) (u3 33) (u3 62) (u3 77) (u3 1) (u3 2) (u3 3) (u3 4) (u3 5) (u3 6) (u3 8) (u3 9) (u3 10) (u3 11) (u3 12) (u3 13) (u3 14) (u3 15) (u3 18) (u3 19) (u3 20) (u3 21) (u3 22) (u3 23) (u3 51) (u3 52) (u3 53) (u3 54) (u3 55) (u3 56) (u3 57) (u3 58) (u3 59) (u3 60) (u3 61) (xs 1)) wd_X11_count mml_L_151 rfl rfl rfl rfl ⟨Nat.le_of_ble_eq_true rfl, Nat.le_of_ble_eq_true rfl⟩ (Nat.le_of_ble_eq_true rfl) ⟨Nat.le_of_ble_eq_true rfl, Nat.le_of_ble_eq_true rfl⟩ dL_law_1457 (fun r379 u H locs hw hP hD hS => ?_)
      try dsimp only at hw
      rcases hw with ⟨rfl, w380⟩ | ⟨rfl, w381⟩ | ⟨rfl, ⟨w382, w383, w384, w385, w386, w387, w388⟩⟩ | ⟨rfl, ⟨w389, w390, w391, w392, w393, w394, w395, w396⟩⟩ | ⟨rfl, ⟨w397, w398, w399, w400, w401, w402, w403, w404⟩⟩
      · have hP : va_P D vwCl [(q9, .inr (12, [.int 0, .int 4, .int 4, .ref (u11 0), .ref (u11 1), .ref (u11 2), .ref (u11 3), .int 0, .ref (u11 4), .ref (u11 5), .int 0, .ref (u11 6), .ref (u11 7), .ref (u11 8), .ref (u11 9), .ref (u11 10), .ref (u11 11), .ref (u11 12), .int 0, .ref (u11 13), .ref (u11 14), .ref (u11 15), .ref (u11 16), .ref (u11 17), .ref (u11 18), .int 0, .ref (u11 19), .int 0, .int 0, .int 0, .ref (u11 20), .int 0, .int 0, .ref (u11 21), .int 0, .ref (u11 60), .ref (u11 22), .ref (u11 23), .ref (u11 24), .ref (u11 61), .ref (u11 25), .ref (u11 26), .ref (u11 62), .ref (u11 63), .ref (u11 64), .ref (u11 27), .ref (u11 28), .ref (u11 29), .ref (u11 30), .ref (u11 31), .ref (u11 32), .ref (u11 33), .ref (u11 34), .ref (u11 35), .ref (u11 36), .ref (u11 37), .ref (u11 38), .ref (u11 65), .int 0, .int 0, .int 0, .int 0, .int 0, .long 0, .int 0, .int 0, .int 0, .int 0, .int 0, .int (-1), .int 0, .ref (u11 39), .ref (u11 40), .ref (u11 41), .ref (u11 42), .ref (u11 43), .int 0, .int 0, .ref (u11 44), .ref (u11 45), .ref (u11 46), .ref (u11 47), .ref (u11 48), .ref (u11 49), .ref (u11 50), .ref (u11 51), .int 0, .int 0, .int 0, .int 0, .ref (u11 52), .ref (u11 53), .int 0, .ref (u11 54), .ref (u11 55), .ref (u11 56), .ref (u11 57), .ref (u11 58), .ref (u11 59)])), (u11 60, .inl (K 0, 2, .inl u14)), (u11 62, .inl (K 0, 2, .inl u16)), (u11 63, .inl (K 0, 2, .inl u17)), (u11 64, .inl (K 0, 2, .inl u18))] H := hP
        have hD : va_D A [(q9, .inr (12, [.int 0, .int 4, .int 4, .ref (u11 0), .ref (u11 1), .ref (u11 2), .ref (u11 3), .int 0, .ref (u11 4), .ref (u11 5), .int 0, .ref (u11 6), .ref (u11 7), .ref (u11 8), .ref (u11 9), .ref (u11 10), .ref (u11 11), .ref (u11 12), .int 0, .ref (u11 13), .ref (u11 14), .ref (u11 15), .ref (u11 16), .ref (u11 17), .ref (u11 18), .int 0, .ref (u11 19), .int 0, .int 0, .int 0, .ref (u11 20), .int 0, .int 0, .ref (u11 21), .int 0, .ref (u11 60), .ref (u11 22), .ref (u11 23), .ref (u11 24), .ref (u11 61), .ref (u11 25), .ref (u11 26), .ref (u11 62), .ref (u11 63), .ref (u11 64), .ref (u11 27), .ref (u11 28), .ref (u11 29), .ref (u11 30), .ref (u11 31), .ref (u11 32), .ref (u11 33), .ref (u11 34), .ref (u11 35), .ref (u11 36), .ref (u11 37), .ref (u11 38), .ref (u11 65), .int 0, .int 0, .int 0, .int 0, .int 0, .long 0, .int 0, .int 0, .int 0, .int 0, .int 0, .int (-1), .int 0, .ref (u11 39), .ref (u11 40), .ref (u11 41), .ref (u11 42), .ref (u11 43), .int 0, .int 0, .ref (u11 44), .ref (u11 45), .ref (u11 46), .ref (u11 47), .ref (u11 48), .ref (u11 49), .ref (u11 50), .ref (u11 51), .int 0, .int 0, .int 0, .int 0, .ref (u11 52), .ref (u11 53), .int 0, .ref (u11 54), .ref (u11 55), .ref (u11 56), .ref (u11 57), .ref (u11 58), .ref (u11 59)])), (u11 60, .inl (K 0, 2, .inl u14)), (u11 62, .inl (K 0, 2, .inl u16)), (u11 63, .inl (K 0, 2, .inl u17)), (u11 64, .inl (K 0, 2, .inl u18))] := hD
        refine lv_aload_n hx hb dL_law_1460 rfl (lv_at hl 1 rfl) ?_
        refine lv_aload_n hx hb dL_law_1461 rfl (lv_at hl 3 rfl) ?_
        refine lv_iload_n hx hb dL_law_1462 rfl (lv_at hl 0 rfl) ?_
        refine lv_iconst (v := 1) hx hb dL_law_1463 (by decide) ?_
        refine lv_iadd hx hb dL_law_1464 ?_
        refine lv_fixi (y := 1) (by decide) ?_
        refine lv_pc (q := 1465) rfl ?_
        refine va_sld (i := 1) hx hb hX hbl hbA hS (by show ¬ (_ ∨ _); decide) dL_law_1465 ?_
        refine lv_fixi (y := (xs 1)) rfl ?_
        refine uVi (As := [.int (xs 1)]) (rest := [.int 4]) (wr := []) [(q9, .inr (12, [.int 0, .int 4, .int 4, .ref (u11 0), .ref (u11 1), .ref (u11 2), .ref (u11 3), .int 0, .ref (u11 4), .ref (u11 5), .int 0, .ref (u11 6), .ref (u11 7), .ref (u11 8), .ref (u11 9), .ref (u11 10), .ref (u11 11), .ref (u11 12), .int 0, .ref (u11 13), .ref (u11 14), .ref (u11 15), .ref (u11 16), .ref (u11 17), .ref (u11 18), .int 0, .ref (u11 19), .int 0, .int 0, .int 0, .ref (u11 20), .int 0, .int 0, .ref (u11 21), .int 0, .ref (u11 60), .ref (u11 22), .ref (u11 23), .ref (u11 24), .ref (u11 61), .ref (u11 25), .ref (u11 26), .ref (u11 62), .ref (u11 63), .ref (u11 64), .ref (u11 27), .ref (u11 28), .ref (u11 29), .ref (u11 30), .ref (u11 31), .ref (u11 32), .ref (u11 33), .ref (u11 34), .ref (u11 35), .ref (u11 36), .ref (u11 37), .ref (u11 38), .ref (u11 65), .int 0, .int 0, .int 0, .int 0, .int 0, .long 0, .int 0, .int 0, .int 0, .int 0, .int 0, .int (-1), .int 0, .ref (u11 39), .ref (u11 40), .ref (u11 41), .ref (u11 42), .ref (u11 43), .int 0, .int 0, .ref (u11 44), .ref (u11 45), .ref (u11 46), .ref (u11 47), .ref (u11 48), .ref (u11 49), .ref (u11 50), .ref (u11 51), .int 0, .int 0, .int 0, .int 0, .ref (u11 52), .ref (u11 53), .int 0, .ref (u11 54), .ref (u11 55), .ref (u11 56), .ref (u11 57), .ref (u11 58), .ref (u11 59)])), (u11 60, .inl (K 0, 2, .inl u14)), (u11 64, .inl (K 0, 2, .inl u18)), (u11 62, .inl (K 0, 2, .inl u16)), (u11 63, .inl (K 0, 2, .inl u17))] B hl.1 hP hD hS [0, 1, 4, 2, 3] [] rfl rfl rfl (kX12_count_177 l D K _ q9 (u11 60) (u11 64) (u11 62) (u11 63) (u11 0) (u11 1) (u11 2) (u11 3) (u11 4) (u11 5) (u11 6) (u11 7) (u11 8) (u11 9) (u11 10) (u11 11) (u11 12) (u11 13) (u11 14) (u11 15) (u11 16) (u11 17) (u11 18) (u11 19) (u11 20) (u11 21) (u11 22) (u11 23) (u11 24) (u11 61) (u11 25) (u11 26) (u11 27) (u11 28) (u11 29) (u11 30) (u11 31) (u11 32) (u11 33) (u11 34) (u11 35) (u11 36) (u11 37) (u11 38) (u11 65) (u11 39) (u11 40) (u11 41) (u11 42) (u11 43) (u11 44) (u11 45) (u11 46) (u11 47) (u11 48) (u11 49) (u11 50) (u11 51) (u11 52) (u11 53) (u11 54) (u11 55) (u11 56) (u11 57) (u11 58) (u11 59) u14 u18 u16 u17 (xs 1) a20 a24 a22 a23) wd_X12_count mml_L_154 rfl rfl rfl rfl ⟨Nat.le_of_ble_eq_true rfl, Nat.le_of_ble_eq_true rfl⟩ (Nat.le_of_ble_eq_true rfl) ⟨Nat.le_of_ble_eq_true rfl, Nat.le_of_ble_eq_true rfl⟩ dL_law_1466 (fun r405 u H locs hw hP hD hS => ?_)
        try dsimp only at hw
        rcases hw with ⟨rfl, w406⟩ | ⟨rfl, w407⟩ | ⟨rfl, ⟨w408, w409, w410, w411, w412, w413, w414⟩⟩ | ⟨rfl, ⟨w415, w416, w417, w418, w419, w420, w421, w422⟩⟩ | ⟨rfl, ⟨w423, w424, w425, w426, w427, w428, w429, w430⟩⟩
        · have hP : va_P D vwCl [] H := hP
          have hD : va_D A [] := hD
          refine lv_icmp_eq (tgt := 1474) hx hb dL_law_1469 (by decide) (fun _ => ?_) (fun h9 => absurd (by decide) h9)
          refine lv_iinc (v := 7) (lv' := [(3, .int 7), (2, .ref q9), (1, .ref q1), (0, .ref b)]) hx hb dL_law_1474 hl (k := 0) rfl (by decide) (by decide) rfl (fun ls hl => ?_)
          refine lv_goto (tgt := 18) hx hb dL_law_1477 (by decide) ?_
          refine lv_iload_n hx hb dL_law_18 rfl (lv_at hl 0 rfl) ?_
          refine lv_pc (q := 19) rfl ?_
          refine lv_aload_n hx hb dL_law_19 rfl (lv_at hl 3 rfl) ?_
          refine va_slen hx hb hX hbl hbA hS dL_law_20 ?_
          refine lv_fixi (y := 7) (by decide) ?_
          refine lv_bipush (v := 7) hx hb dL_law_21 (by decide) ?_
          refine lv_isub hx hb dL_law_23 ?_
          refine lv_fixi (y := 0) (by decide) ?_
          refine lv_icmp_gt (tgt := 1480) hx hb dL_law_24 (by decide) (fun _ => ?_) (fun h9 => absurd (by decide) h9)
          refine lv_iconst (v := 1) hx hb dL_law_1480 (by decide) ?_
          refine lv_pc (q := 1481) rfl ?_
          refine va_forget (fun q hq => by have h9 := hS.2.2 q hq; rw [hAe] at h9; exact h9) ?_
          refine W.widen (k := 600000) (n := 7302250) (by decide) (by decide) ?_
          exact lw_ret hx hb hr hlocks dL_law_1481
        · have hP : va_P D vwCl [] H := hP
          have hD : va_D A [] := hD
          exfalso
          try simp only [fa_lt, fa_le, fa_eq, Int32.reduceToInt] at w380 w407
          omega
        · have hP : va_P D vwCl [] H := hP
          have hD : va_D A [] := hD
          exfalso
          try simp only [fa_lt, fa_le, fa_eq, Int32.reduceToInt] at w380 w408 w409 w410 w411 w412 w413 w414
          omega
        · have hP : va_P D vwCl [] H := hP
          have hD : va_D A [] := hD
          exfalso
          try simp only [fa_lt, fa_le, fa_eq, Int32.reduceToInt] at w380 w415 w416 w417 w418 w419 w420 w421 w422
          omega
        have hP : va_P D vwCl [] H := hP
        have hD : va_D A [] := hD
        exfalso
        try simp only [fa_lt, fa_le, fa_eq, Int32.reduceToInt] at w380 w423 w424 w425 w426 w427 w428 w429 w430
        omega
      · have hP : va_P D vwCl [(q9, .inr (12, [.int 0, .int 4, .int 4, .ref (u11 0), .ref (u11 1), .ref (u11 2), .ref (u11 3), .int 0, .ref (u11 4), .ref (u11 5), .int 0, .ref (u11 6), .ref (u11 7), .ref (u11 8), .ref (u11 9), .ref (u11 10), .ref (u11 11), .ref (u11 12), .int 0, .ref (u11 13), .ref (u11 14), .ref (u11 15), .ref (u11 16), .ref (u11 17), .ref (u11 18), .int 0, .ref (u11 19), .int 0, .int 0, .int 0, .ref (u11 20), .int 0, .int 0, .ref (u11 21), .int 0, .ref (u11 60), .ref (u11 22), .ref (u11 23), .ref (u11 24), .ref (u11 61), .ref (u11 25), .ref (u11 26), .ref (u11 62), .ref (u11 63), .ref (u11 64), .ref (u11 27), .ref (u11 28), .ref (u11 29), .ref (u11 30), .ref (u11 31), .ref (u11 32), .ref (u11 33), .ref (u11 34), .ref (u11 35), .ref (u11 36), .ref (u11 37), .ref (u11 38), .ref (u11 65), .int 0, .int 0, .int 0, .int 0, .int 0, .long 0, .int 0, .int 0, .int 0, .int 0, .int 0, .int (-1), .int 0, .ref (u11 39), .ref (u11 40), .ref (u11 41), .ref (u11 42), .ref (u11 43), .int 0, .int 0, .ref (u11 44), .ref (u11 45), .ref (u11 46), .ref (u11 47), .ref (u11 48), .ref (u11 49), .ref (u11 50), .ref (u11 51), .int 0, .int 0, .int 0, .int 0, .ref (u11 52), .ref (u11 53), .int 0, .ref (u11 54), .ref (u11 55), .ref (u11 56), .ref (u11 57), .ref (u11 58), .ref (u11 59)])), (u11 60, .inl (K 0, 2, .inl u14)), (u11 62, .inl (K 0, 2, .inl u16)), (u11 63, .inl (K 0, 2, .inl u17)), (u11 64, .inl (K 0, 2, .inl u18))] H := hP
        have hD : va_D A [(q9, .inr (12, [.int 0, .int 4, .int 4, .ref (u11 0), .ref (u11 1), .ref (u11 2), .ref (u11 3), .int 0, .ref (u11 4), .ref (u11 5), .int 0, .ref (u11 6), .ref (u11 7), .ref (u11 8), .ref (u11 9), .ref (u11 10), .ref (u11 11), .ref (u11 12), .int 0, .ref (u11 13), .ref (u11 14), .ref (u11 15), .ref (u11 16), .ref (u11 17), .ref (u11 18), .int 0, .ref (u11 19), .int 0, .int 0, .int 0, .ref (u11 20), .int 0, .int 0, .ref (u11 21), .int 0, .ref (u11 60), .ref (u11 22), .ref (u11 23), .ref (u11 24), .ref (u11 61), .ref (u11 25), .ref (u11 26), .ref (u11 62), .ref (u11 63), .ref (u11 64), .ref (u11 27), .ref (u11 28), .ref (u11 29), .ref (u11 30), .ref (u11 31), .ref (u11 32), .ref (u11 33), .ref (u11 34), .ref (u11 35), .ref (u11 36), .ref (u11 37), .ref (u11 38), .ref (u11 65), .int 0, .int 0, .int 0, .int 0, .int 0, .long 0, .int 0, .int 0, .int 0, .int 0, .int 0, .int (-1), .int 0, .ref (u11 39), .ref (u11 40), .ref (u11 41), .ref (u11 42), .ref (u11 43), .int 0, .int 0, .ref (u11 44), .ref (u11 45), .ref (u11 46), .ref (u11 47), .ref (u11 48), .ref (u11 49), .ref (u11 50), .ref (u11 51), .int 0, .int 0, .int 0, .int 0, .ref (u11 52), .ref (u11 53), .int 0, .ref (u11 54), .ref (u11 55), .ref (u11 56), .ref (u11 57), .ref (u11 58), .ref (u11 59)])), (u11 60, .inl (K 0, 2, .inl u14)), (u11 62, .inl (K 0, 2, .inl u16)), (u11 63, .inl (K 0, 2, .inl u17)), (u11 64, .inl (K 0, 2, .inl u18))] := hD
        refine lv_aload_n hx hb dL_law_1460 rfl (lv_at hl 1 rfl) ?_
        refine lv_aload_n hx hb dL_law_1461 rfl (lv_at hl 3 rfl) ?_
        refine lv_iload_n hx hb dL_law_1462 rfl (lv_at hl 0 rfl) ?_
        refine lv_iconst (v := 1) hx hb dL_law_1463 (by decide) ?_
        refine lv_iadd hx hb dL_law_1464 ?_
        refine lv_fixi (y := 1) (by decide) ?_
        refine lv_pc (q := 1465) rfl ?_
        refine va_sld (i := 1) hx hb hX hbl hbA hS (by show ¬ (_ ∨ _); decide) dL_law_1465 ?_
        refine lv_fixi (y := (xs 1)) rfl ?_
        refine uVi (As := [.int (xs 1)]) (rest := [.int 0]) (wr := []) [(q9, .inr (12, [.int 0, .int 4, .int 4, .ref (u11 0), .ref (u11 1), .ref (u11 2), .ref (u11 3), .int 0, .ref (u11 4), .ref (u11 5), .int 0, .ref (u11 6), .ref (u11 7), .ref (u11 8), .ref (u11 9), .ref (u11 10), .ref (u11 11), .ref (u11 12), .int 0, .ref (u11 13), .ref (u11 14), .ref (u11 15), .ref (u11 16), .ref (u11 17), .ref (u11 18), .int 0, .ref (u11 19), .int 0, .int 0, .int 0, .ref (u11 20), .int 0, .int 0, .ref (u11 21), .int 0, .ref (u11 60), .ref (u11 22), .ref (u11 23), .ref (u11 24), .ref (u11 61), .ref (u11 25), .ref (u11 26), .ref (u11 62), .ref (u11 63), .ref (u11 64), .ref (u11 27), .ref (u11 28), .ref (u11 29), .ref (u11 30), .ref (u11 31), .ref (u11 32), .ref (u11 33), .ref (u11 34), .ref (u11 35), .ref (u11 36), .ref (u11 37), .ref (u11 38), .ref (u11 65), .int 0, .int 0, .int 0, .int 0, .int 0, .long 0, .int 0, .int 0, .int 0, .int 0, .int 0, .int (-1), .int 0, .ref (u11 39), .ref (u11 40), .ref (u11 41), .ref (u11 42), .ref (u11 43), .int 0, .int 0, .ref (u11 44), .ref (u11 45), .ref (u11 46), .ref (u11 47), .ref (u11 48), .ref (u11 49), .ref (u11 50), .ref (u11 51), .int 0, .int 0, .int 0, .int 0, .ref (u11 52), .ref (u11 53), .int 0, .ref (u11 54), .ref (u11 55), .ref (u11 56), .ref (u11 57), .ref (u11 58), .ref (u11 59)])), (u11 60, .inl (K 0, 2, .inl u14)), (u11 64, .inl (K 0, 2, .inl u18)), (u11 62, .inl (K 0, 2, .inl u16)), (u11 63, .inl (K 0, 2, .inl u17))] B hl.1 hP hD hS [0, 1, 4, 2, 3] [] rfl rfl rfl (kX12_count_177 l D K _ q9 (u11 60) (u11 64) (u11 62) (u11 63) (u11 0) (u11 1) (u11 2) (u11 3) (u11 4) (u11 5) (u11 6) (u11 7) (u11 8) (u11 9) (u11 10) (u11 11) (u11 12) (u11 13) (u11 14) (u11 15) (u11 16) (u11 17) (u11 18) (u11 19) (u11 20) (u11 21) (u11 22) (u11 23) (u11 24) (u11 61) (u11 25) (u11 26) (u11 27) (u11 28) (u11 29) (u11 30) (u11 31) (u11 32) (u11 33) (u11 34) (u11 35) (u11 36) (u11 37) (u11 38) (u11 65) (u11 39) (u11 40) (u11 41) (u11 42) (u11 43) (u11 44) (u11 45) (u11 46) (u11 47) (u11 48) (u11 49) (u11 50) (u11 51) (u11 52) (u11 53) (u11 54) (u11 55) (u11 56) (u11 57) (u11 58) (u11 59) u14 u18 u16 u17 (xs 1) a20 a24 a22 a23) wd_X12_count mml_L_154 rfl rfl rfl rfl ⟨Nat.le_of_ble_eq_true rfl, Nat.le_of_ble_eq_true rfl⟩ (Nat.le_of_ble_eq_true rfl) ⟨Nat.le_of_ble_eq_true rfl, Nat.le_of_ble_eq_true rfl⟩ dL_law_1466 (fun r431 u H locs hw hP hD hS => ?_)
        try dsimp only at hw
        rcases hw with ⟨rfl, w432⟩ | ⟨rfl, w433⟩ | ⟨rfl, ⟨w434, w435, w436, w437, w438, w439, w440⟩⟩ | ⟨rfl, ⟨w441, w442, w443, w444, w445, w446, w447, w448⟩⟩ | ⟨rfl, ⟨w449, w450, w451, w452, w453, w454, w455, w456⟩⟩
        · have hP : va_P D vwCl [] H := hP
          have hD : va_D A [] := hD
          exfalso
          try simp only [fa_lt, fa_le, fa_eq, Int32.reduceToInt] at w381 w432
          omega
        · have hP : va_P D vwCl [] H := hP
          have hD : va_D A [] := hD
          refine lv_icmp_eq (tgt := 1474) hx hb dL_law_1469 (by decide) (fun _ => ?_) (fun h9 => absurd (by decide) h9)
          refine lv_iinc (v := 7) (lv' := [(3, .int 7), (2, .ref q9), (1, .ref q1), (0, .ref b)]) hx hb dL_law_1474 hl (k := 0) rfl (by decide) (by decide) rfl (fun ls hl => ?_)
          refine lv_goto (tgt := 18) hx hb dL_law_1477 (by decide) ?_
          refine lv_iload_n hx hb dL_law_18 rfl (lv_at hl 0 rfl) ?_
          refine lv_pc (q := 19) rfl ?_
          refine lv_aload_n hx hb dL_law_19 rfl (lv_at hl 3 rfl) ?_
          refine va_slen hx hb hX hbl hbA hS dL_law_20 ?_
          refine lv_fixi (y := 7) (by decide) ?_
          refine lv_bipush (v := 7) hx hb dL_law_21 (by decide) ?_
          refine lv_isub hx hb dL_law_23 ?_
          refine lv_fixi (y := 0) (by decide) ?_
          refine lv_icmp_gt (tgt := 1480) hx hb dL_law_24 (by decide) (fun _ => ?_) (fun h9 => absurd (by decide) h9)
          refine lv_iconst (v := 1) hx hb dL_law_1480 (by decide) ?_
          refine lv_pc (q := 1481) rfl ?_
          refine va_forget (fun q hq => by have h9 := hS.2.2 q hq; rw [hAe] at h9; exact h9) ?_
          refine W.widen (k := 600000) (n := 7302250) (by decide) (by decide) ?_
          exact lw_ret hx hb hr hlocks dL_law_1481
        · have hP : va_P D vwCl [] H := hP
          have hD : va_D A [] := hD
          exfalso
          try simp only [fa_lt, fa_le, fa_eq, Int32.reduceToInt] at w381 w434 w435 w436 w437 w438 w439 w440
          omega
        · have hP : va_P D vwCl [] H := hP
          have hD : va_D A [] := hD
          exfalso
          try simp only [fa_lt, fa_le, fa_eq, Int32.reduceToInt] at w381 w441 w442 w443 w444 w445 w446 w447 w448
          omega
        have hP : va_P D vwCl [] H := hP
        have hD : va_D A [] := hD
        exfalso
        try simp only [fa_lt, fa_le, fa_eq, Int32.reduceToInt] at w381 w449 w450 w451 w452 w453 w454 w455 w456
        omega
      · have hP : va_P D vwCl [(q9, .inr (12, [.int 0, .int 4, .int 4, .ref (u11 0), .ref (u11 1), .ref (u11 2), .ref (u11 3), .int 0, .ref (u11 4), .ref (u11 5), .int 0, .ref (u11 6), .ref (u11 7), .ref (u11 8), .ref (u11 9), .ref (u11 10), .ref (u11 11), .ref (u11 12), .int 0, .ref (u11 13), .ref (u11 14), .ref (u11 15), .ref (u11 16), .ref (u11 17), .ref (u11 18), .int 0, .ref (u11 19), .int 0, .int 0, .int 0, .ref (u11 20), .int 0, .int 0, .ref (u11 21), .int 0, .ref (u11 60), .ref (u11 22), .ref (u11 23), .ref (u11 24), .ref (u11 61), .ref (u11 25), .ref (u11 26), .ref (u11 62), .ref (u11 63), .ref (u11 64), .ref (u11 27), .ref (u11 28), .ref (u11 29), .ref (u11 30), .ref (u11 31), .ref (u11 32), .ref (u11 33), .ref (u11 34), .ref (u11 35), .ref (u11 36), .ref (u11 37), .ref (u11 38), .ref (u11 65), .int 0, .int 0, .int 0, .int 0, .int 0, .long 0, .int 0, .int 0, .int 0, .int 0, .int 0, .int (-1), .int 0, .ref (u11 39), .ref (u11 40), .ref (u11 41), .ref (u11 42), .ref (u11 43), .int 0, .int 0, .ref (u11 44), .ref (u11 45), .ref (u11 46), .ref (u11 47), .ref (u11 48), .ref (u11 49), .ref (u11 50), .ref (u11 51), .int 0, .int 0, .int 0, .int 0, .ref (u11 52), .ref (u11 53), .int 0, .ref (u11 54), .ref (u11 55), .ref (u11 56), .ref (u11 57), .ref (u11 58), .ref (u11 59)])), (u11 60, .inl (K 0, 2, .inl u14)), (u11 62, .inl (K 0, 2, .inl u16)), (u11 63, .inl (K 0, 2, .inl u17)), (u11 64, .inl (K 0, 2, .inl u18))] H := hP
        have hD : va_D A [(q9, .inr (12, [.int 0, .int 4, .int 4, .ref (u11 0), .ref (u11 1), .ref (u11 2), .ref (u11 3), .int 0, .ref (u11 4), .ref (u11 5), .int 0, .ref (u11 6), .ref (u11 7), .ref (u11 8), .ref (u11 9), .ref (u11 10), .ref (u11 11), .ref (u11 12), .int 0, .ref (u11 13), .ref (u11 14), .ref (u11 15), .ref (u11 16), .ref (u11 17), .ref (u11 18), .int 0, .ref (u11 19), .int 0, .int 0, .int 0, .ref (u11 20), .int 0, .int 0, .ref (u11 21), .int 0, .ref (u11 60), .ref (u11 22), .ref (u11 23), .ref (u11 24), .ref (u11 61), .ref (u11 25), .ref (u11 26), .ref (u11 62), .ref (u11 63), .ref (u11 64), .ref (u11 27), .ref (u11 28), .ref (u11 29), .ref (u11 30), .ref (u11 31), .ref (u11 32), .ref (u11 33), .ref (u11 34), .ref (u11 35), .ref (u11 36), .ref (u11 37), .ref (u11 38), .ref (u11 65), .int 0, .int 0, .int 0, .int 0, .int 0, .long 0, .int 0, .int 0, .int 0, .int 0, .int 0, .int (-1), .int 0, .ref (u11 39), .ref (u11 40), .ref (u11 41), .ref (u11 42), .ref (u11 43), .int 0, .int 0, .ref (u11 44), .ref (u11 45), .ref (u11 46), .ref (u11 47), .ref (u11 48), .ref (u11 49), .ref (u11 50), .ref (u11 51), .int 0, .int 0, .int 0, .int 0, .ref (u11 52), .ref (u11 53), .int 0, .ref (u11 54), .ref (u11 55), .ref (u11 56), .ref (u11 57), .ref (u11 58), .ref (u11 59)])), (u11 60, .inl (K 0, 2, .inl u14)), (u11 62, .inl (K 0, 2, .inl u16)), (u11 63, .inl (K 0, 2, .inl u17)), (u11 64, .inl (K 0, 2, .inl u18))] := hD
        refine lv_aload_n hx hb dL_law_1460 rfl (lv_at hl 1 rfl) ?_
        refine lv_aload_n hx hb dL_law_1461 rfl (lv_at hl 3 rfl) ?_
        refine lv_iload_n hx hb dL_law_1462 rfl (lv_at hl 0 rfl) ?_
        refine lv_iconst (v := 1) hx hb dL_law_1463 (by decide) ?_
        refine lv_iadd hx hb dL_law_1464 ?_
        refine lv_fixi (y := 1) (by decide) ?_
        refine lv_pc (q := 1465) rfl ?_
        refine va_sld (i := 1) hx hb hX hbl hbA hS (by show ¬ (_ ∨ _); decide) dL_law_1465 ?_
        refine lv_fixi (y := (xs 1)) rfl ?_
        refine uVi (As := [.int (xs 1)]) (rest := [.int 2]) (wr := []) [(q9, .inr (12, [.int 0, .int 4, .int 4, .ref (u11 0), .ref (u11 1), .ref (u11 2), .ref (u11 3), .int 0, .ref (u11 4), .ref (u11 5), .int 0, .ref (u11 6), .ref (u11 7), .ref (u11 8), .ref (u11 9), .ref (u11 10), .ref (u11 11), .ref (u11 12), .int 0, .ref (u11 13), .ref (u11 14), .ref (u11 15), .ref (u11 16), .ref (u11 17), .ref (u11 18), .int 0, .ref (u11 19), .int 0, .int 0, .int 0, .ref (u11 20), .int 0, .int 0, .ref (u11 21), .int 0, .ref (u11 60), .ref (u11 22), .ref (u11 23), .ref (u11 24), .ref (u11 61), .ref (u11 25), .ref (u11 26), .ref (u11 62), .ref (u11 63), .ref (u11 64), .ref (u11 27), .ref (u11 28), .ref (u11 29), .ref (u11 30), .ref (u11 31), .ref (u11 32), .ref (u11 33), .ref (u11 34), .ref (u11 35), .ref (u11 36), .ref (u11 37), .ref (u11 38), .ref (u11 65), .int 0, .int 0, .int 0, .int 0, .int 0, .long 0, .int 0, .int 0, .int 0, .int 0, .int 0, .int (-1), .int 0, .ref (u11 39), .ref (u11 40), .ref (u11 41), .ref (u11 42), .ref (u11 43), .int 0, .int 0, .ref (u11 44), .ref (u11 45), .ref (u11 46), .ref (u11 47), .ref (u11 48), .ref (u11 49), .ref (u11 50), .ref (u11 51), .int 0, .int 0, .int 0, .int 0, .ref (u11 52), .ref (u11 53), .int 0, .ref (u11 54), .ref (u11 55), .ref (u11 56), .ref (u11 57), .ref (u11 58), .ref (u11 59)])), (u11 60, .inl (K 0, 2, .inl u14)), (u11 64, .inl (K 0, 2, .inl u18)), (u11 62, .inl (K 0, 2, .inl u16)), (u11 63, .inl (K 0, 2, .inl u17))] B hl.1 hP hD hS [0, 1, 4, 2, 3] [] rfl rfl rfl (kX12_count_177 l D K _ q9 (u11 60) (u11 64) (u11 62) (u11 63) (u11 0) (u11 1) (u11 2) (u11 3) (u11 4) (u11 5) (u11 6) (u11 7) (u11 8) (u11 9) (u11 10) (u11 11) (u11 12) (u11 13) (u11 14) (u11 15) (u11 16) (u11 17) (u11 18) (u11 19) (u11 20) (u11 21) (u11 22) (u11 23) (u11 24) (u11 61) (u11 25) (u11 26) (u11 27) (u11 28) (u11 29) (u11 30) (u11 31) (u11 32) (u11 33) (u11 34) (u11 35) (u11 36) (u11 37) (u11 38) (u11 65) (u11 39) (u11 40) (u11 41) (u11 42) (u11 43) (u11 44) (u11 45) (u11 46) (u11 47) (u11 48) (u11 49) (u11 50) (u11 51) (u11 52) (u11 53) (u11 54) (u11 55) (u11 56) (u11 57) (u11 58) (u11 59) u14 u18 u16 u17 (xs 1) a20 a24 a22 a23) wd_X12_count mml_L_154 rfl rfl rfl rfl ⟨Nat.le_of_ble_eq_true rfl, Nat.le_of_ble_eq_true rfl⟩ (Nat.le_of_ble_eq_true rfl) ⟨Nat.le_of_ble_eq_true rfl, Nat.le_of_ble_eq_true rfl⟩ dL_law_1466 (fun r457 u H locs hw hP hD hS => ?_)
        try dsimp only at hw
        rcases hw with ⟨rfl, w458⟩ | ⟨rfl, w459⟩ | ⟨rfl, ⟨w460, w461, w462, w463, w464, w465, w466⟩⟩ | ⟨rfl, ⟨w467, w468, w469, w470, w471, w472, w473, w474⟩⟩ | ⟨rfl, ⟨w475, w476, w477, w478, w479, w480, w481, w482⟩⟩
        · have hP : va_P D vwCl [] H := hP
          have hD : va_D A [] := hD
          exfalso
          try simp only [fa_lt, fa_le, fa_eq, Int32.reduceToInt] at w382 w383 w384 w385 w386 w387 w388 w458
          omega
        · have hP : va_P D vwCl [] H := hP
          have hD : va_D A [] := hD
          exfalso
          try simp only [fa_lt, fa_le, fa_eq, Int32.reduceToInt] at w382 w383 w384 w385 w386 w387 w388 w459
          omega
        · have hP : va_P D vwCl [] H := hP
          have hD : va_D A [] := hD
          refine lv_icmp_eq (tgt := 1474) hx hb dL_law_1469 (by decide) (fun _ => ?_) (fun h9 => absurd (by decide) h9)
          refine lv_iinc (v := 7) (lv' := [(3, .int 7), (2, .ref q9), (1, .ref q1), (0, .ref b)]) hx hb dL_law_1474 hl (k := 0) rfl (by decide) (by decide) rfl (fun ls hl => ?_)
          refine lv_goto (tgt := 18) hx hb dL_law_1477 (by decide) ?_
          refine lv_iload_n hx hb dL_law_18 rfl (lv_at hl 0 rfl) ?_
          refine lv_pc (q := 19) rfl ?_
          refine lv_aload_n hx hb dL_law_19 rfl (lv_at hl 3 rfl) ?_
          refine va_slen hx hb hX hbl hbA hS dL_law_20 ?_
          refine lv_fixi (y := 7) (by decide) ?_
          refine lv_bipush (v := 7) hx hb dL_law_21 (by decide) ?_
          refine lv_isub hx hb dL_law_23 ?_
          refine lv_fixi (y := 0) (by decide) ?_
          refine lv_icmp_gt (tgt := 1480) hx hb dL_law_24 (by decide) (fun _ => ?_) (fun h9 => absurd (by decide) h9)
          refine lv_iconst (v := 1) hx hb dL_law_1480 (by decide) ?_
          refine lv_pc (q := 1481) rfl ?_
          refine va_forget (fun q hq => by have h9 := hS.2.2 q hq; rw [hAe] at h9; exact h9) ?_
          refine W.widen (k := 600000) (n := 7302250) (by decide) (by decide) ?_
          exact lw_ret hx hb hr hlocks dL_law_1481
        · have hP : va_P D vwCl [] H := hP
          have hD : va_D A [] := hD
          exfalso
          try simp only [fa_lt, fa_le, fa_eq, Int32.reduceToInt] at w382 w383 w384 w385 w386 w387 w388 w467 w468 w469 w470 w471 w472 w473 w474
          omega
        have hP : va_P D vwCl [] H := hP
        have hD : va_D A [] := hD
        exfalso
        try simp only [fa_lt, fa_le, fa_eq, Int32.reduceToInt] at w382 w383 w384 w385 w386 w387 w388 w475 w476 w477 w478 w479 w480 w481 w482
        omega
      · have hP : va_P D vwCl [(q9, .inr (12, [.int 0, .int 4, .int 4, .ref (u11 0), .ref (u11 1), .ref (u11 2), .ref (u11 3), .int 0, .ref (u11 4), .ref (u11 5), .int 0, .ref (u11 6), .ref (u11 7), .ref (u11 8), .ref (u11 9), .ref (u11 10), .ref (u11 11), .ref (u11 12), .int 0, .ref (u11 13), .ref (u11 14), .ref (u11 15), .ref (u11 16), .ref (u11 17), .ref (u11 18), .int 0, .ref (u11 19), .int 0, .int 0, .int 0, .ref (u11 20), .int 0, .int 0, .ref (u11 21), .int 0, .ref (u11 60), .ref (u11 22), .ref (u11 23), .ref (u11 24), .ref (u11 61), .ref (u11 25), .ref (u11 26), .ref (u11 62), .ref (u11 63), .ref (u11 64), .ref (u11 27), .ref (u11 28), .ref (u11 29), .ref (u11 30), .ref (u11 31), .ref (u11 32), .ref (u11 33), .ref (u11 34), .ref (u11 35), .ref (u11 36), .ref (u11 37), .ref (u11 38), .ref (u11 65), .int 0, .int 0, .int 0, .int 0, .int 0, .long 0, .int 0, .int 0, .int 0, .int 0, .int 0, .int (-1), .int 0, .ref (u11 39), .ref (u11 40), .ref (u11 41), .ref (u11 42), .ref (u11 43), .int 0, .int 0, .ref (u11 44), .ref (u11 45), .ref (u11 46), .ref (u11 47), .ref (u11 48), .ref (u11 49), .ref (u11 50), .ref (u11 51), .int 0, .int 0, .int 0, .int 0, .ref (u11 52), .ref (u11 53), .int 0, .ref (u11 54), .ref (u11 55), .ref (u11 56), .ref (u11 57), .ref (u11 58), .ref (u11 59)])), (u11 60, .inl (K 0, 2, .inl u14)), (u11 62, .inl (K 0, 2, .inl u16)), (u11 63, .inl (K 0, 2, .inl u17)), (u11 64, .inl (K 0, 2, .inl u18))] H := hP
        have hD : va_D A [(q9, .inr (12, [.int 0, .int 4, .int 4, .ref (u11 0), .ref (u11 1), .ref (u11 2), .ref (u11 3), .int 0, .ref (u11 4), .ref (u11 5), .int 0, .ref (u11 6), .ref (u11 7), .ref (u11 8), .ref (u11 9), .ref (u11 10), .ref (u11 11), .ref (u11 12), .int 0, .ref (u11 13), .ref (u11 14), .ref (u11 15), .ref (u11 16), .ref (u11 17), .ref (u11 18), .int 0, .ref (u11 19), .int 0, .int 0, .int 0, .ref (u11 20), .int 0, .int 0, .ref (u11 21), .int 0, .ref (u11 60), .ref (u11 22), .ref (u11 23), .ref (u11 24), .ref (u11 61), .ref (u11 25), .ref (u11 26), .ref (u11 62), .ref (u11 63), .ref (u11 64), .ref (u11 27), .ref (u11 28), .ref (u11 29), .ref (u11 30), .ref (u11 31), .ref (u11 32), .ref (u11 33), .ref (u11 34), .ref (u11 35), .ref (u11 36), .ref (u11 37), .ref (u11 38), .ref (u11 65), .int 0, .int 0, .int 0, .int 0, .int 0, .long 0, .int 0, .int 0, .int 0, .int 0, .int 0, .int (-1), .int 0, .ref (u11 39), .ref (u11 40), .ref (u11 41), .ref (u11 42), .ref (u11 43), .int 0, .int 0, .ref (u11 44), .ref (u11 45), .ref (u11 46), .ref (u11 47), .ref (u11 48), .ref (u11 49), .ref (u11 50), .ref (u11 51), .int 0, .int 0, .int 0, .int 0, .ref (u11 52), .ref (u11 53), .int 0, .ref (u11 54), .ref (u11 55), .ref (u11 56), .ref (u11 57), .ref (u11 58), .ref (u11 59)])), (u11 60, .inl (K 0, 2, .inl u14)), (u11 62, .inl (K 0, 2, .inl u16)), (u11 63, .inl (K 0, 2, .inl u17)), (u11 64, .inl (K 0, 2, .inl u18))] := hD
        refine lv_aload_n hx hb dL_law_1460 rfl (lv_at hl 1 rfl) ?_
        refine lv_aload_n hx hb dL_law_1461 rfl (lv_at hl 3 rfl) ?_
        refine lv_iload_n hx hb dL_law_1462 rfl (lv_at hl 0 rfl) ?_
        refine lv_iconst (v := 1) hx hb dL_law_1463 (by decide) ?_
        refine lv_iadd hx hb dL_law_1464 ?_
        refine lv_fixi (y := 1) (by decide) ?_
        refine lv_pc (q := 1465) rfl ?_
        refine va_sld (i := 1) hx hb hX hbl hbA hS (by show ¬ (_ ∨ _); decide) dL_law_1465 ?_
        refine lv_fixi (y := (xs 1)) rfl ?_
        refine uVi (As := [.int (xs 1)]) (rest := [.int 1]) (wr := []) [(q9, .inr (12, [.int 0, .int 4, .int 4, .ref (u11 0), .ref (u11 1), .ref (u11 2), .ref (u11 3), .int 0, .ref (u11 4), .ref (u11 5), .int 0, .ref (u11 6), .ref (u11 7), .ref (u11 8), .ref (u11 9), .ref (u11 10), .ref (u11 11), .ref (u11 12), .int 0, .ref (u11 13), .ref (u11 14), .ref (u11 15), .ref (u11 16), .ref (u11 17), .ref (u11 18), .int 0, .ref (u11 19), .int 0, .int 0, .int 0, .ref (u11 20), .int 0, .int 0, .ref (u11 21), .int 0, .ref (u11 60), .ref (u11 22), .ref (u11 23), .ref (u11 24), .ref (u11 61), .ref (u11 25), .ref (u11 26), .ref (u11 62), .ref (u11 63), .ref (u11 64), .ref (u11 27), .ref (u11 28), .ref (u11 29), .ref (u11 30), .ref (u11 31), .ref (u11 32), .ref (u11 33), .ref (u11 34), .ref (u11 35), .ref (u11 36), .ref (u11 37), .ref (u11 38), .ref (u11 65), .int 0, .int 0, .int 0, .int 0, .int 0, .long 0, .int 0, .int 0, .int 0, .int 0, .int 0, .int (-1), .int 0, .ref (u11 39), .ref (u11 40), .ref (u11 41), .ref (u11 42), .ref (u11 43), .int 0, .int 0, .ref (u11 44), .ref (u11 45), .ref (u11 46), .ref (u11 47), .ref (u11 48), .ref (u11 49), .ref (u11 50), .ref (u11 51), .int 0, .int 0, .int 0, .int 0, .ref (u11 52), .ref (u11 53), .int 0, .ref (u11 54), .ref (u11 55), .ref (u11 56), .ref (u11 57), .ref (u11 58), .ref (u11 59)])), (u11 60, .inl (K 0, 2, .inl u14)), (u11 64, .inl (K 0, 2, .inl u18)), (u11 62, .inl (K 0, 2, .inl u16)), (u11 63, .inl (K 0, 2, .inl u17))] B hl.1 hP hD hS [0, 1, 4, 2, 3] [] rfl rfl rfl (kX12_count_177 l D K _ q9 (u11 60) (u11 64) (u11 62) (u11 63) (u11 0) (u11 1) (u11 2) (u11 3) (u11 4) (u11 5) (u11 6) (u11 7) (u11 8) (u11 9) (u11 10) (u11 11) (u11 12) (u11 13) (u11 14) (u11 15) (u11 16) (u11 17) (u11 18) (u11 19) (u11 20) (u11 21) (u11 22) (u11 23) (u11 24) (u11 61) (u11 25) (u11 26) (u11 27) (u11 28) (u11 29) (u11 30) (u11 31) (u11 32) (u11 33) (u11 34) (u11 35) (u11 36) (u11 37) (u11 38) (u11 65) (u11 39) (u11 40) (u11 41) (u11 42) (u11 43) (u11 44) (u11 45) (u11 46) (u11 47) (u11 48) (u11 49) (u11 50) (u11 51) (u11 52) (u11 53) (u11 54) (u11 55) (u11 56) (u11 57) (u11 58) (u11 59) u14 u18 u16 u17 (xs 1) a20 a24 a22 a23) wd_X12_count mml_L_154 rfl rfl rfl rfl ⟨Nat.le_of_ble_eq_true rfl, Nat.le_of_ble_eq_true rfl⟩ (Nat.le_of_ble_eq_true rfl) ⟨Nat.le_of_ble_eq_true rfl, Nat.le_of_ble_eq_true rfl⟩ dL_law_1466 (fun r483 u H locs hw hP hD hS => ?_)
        try dsimp only at hw
        rcases hw with ⟨rfl, w484⟩ | ⟨rfl, w485⟩ | ⟨rfl, ⟨w486, w487, w488, w489, w490, w491, w492⟩⟩ | ⟨rfl, ⟨w493, w494, w495, w496, w497, w498, w499, w500⟩⟩ | ⟨rfl, ⟨w501, w502, w503, w504, w505, w506, w507, w508⟩⟩
        · have hP : va_P D vwCl [] H := hP
          have hD : va_D A [] := hD
          exfalso
          try simp only [fa_lt, fa_le, fa_eq, Int32.reduceToInt] at w389 w390 w391 w392 w393 w394 w395 w396 w484
          omega
        · have hP : va_P D vwCl [] H := hP
          have hD : va_D A [] := hD
          exfalso
          try simp only [fa_lt, fa_le, fa_eq, Int32.reduceToInt] at w389 w390 w391 w392 w393 w394 w395 w396 w485
          omega
        · have hP : va_P D vwCl [] H := hP
          have hD : va_D A [] := hD
          exfalso
          try simp only [fa_lt, fa_le, fa_eq, Int32.reduceToInt] at w389 w390 w391 w392 w393 w394 w395 w396 w486 w487 w488 w489 w490 w491 w492
          omega
        · have hP : va_P D vwCl [] H := hP
          have hD : va_D A [] := hD
          refine lv_icmp_eq (tgt := 1474) hx hb dL_law_1469 (by decide) (fun _ => ?_) (fun h9 => absurd (by decide) h9)
          refine lv_iinc (v := 7) (lv' := [(3, .int 7), (2, .ref q9), (1, .ref q1), (0, .ref b)]) hx hb dL_law_1474 hl (k := 0) rfl (by decide) (by decide) rfl (fun ls hl => ?_)
          refine lv_goto (tgt := 18) hx hb dL_law_1477 (by decide) ?_
          refine lv_iload_n hx hb dL_law_18 rfl (lv_at hl 0 rfl) ?_
          refine lv_pc (q := 19) rfl ?_
          refine lv_aload_n hx hb dL_law_19 rfl (lv_at hl 3 rfl) ?_
          refine va_slen hx hb hX hbl hbA hS dL_law_20 ?_
          refine lv_fixi (y := 7) (by decide) ?_
          refine lv_bipush (v := 7) hx hb dL_law_21 (by decide) ?_
          refine lv_isub hx hb dL_law_23 ?_
          refine lv_fixi (y := 0) (by decide) ?_
          refine lv_icmp_gt (tgt := 1480) hx hb dL_law_24 (by decide) (fun _ => ?_) (fun h9 => absurd (by decide) h9)
          refine lv_iconst (v := 1) hx hb dL_law_1480 (by decide) ?_
          refine lv_pc (q := 1481) rfl ?_
          refine va_forget (fun q hq => by have h9 := hS.2.2 q hq; rw [hAe] at h9; exact h9) ?_
          refine W.widen (k := 600000) (n := 7302250) (by decide) (by decide) ?_
          exact lw_ret hx hb hr hlocks dL_law_1481
        have hP : va_P D vwCl [] H := hP
        have hD : va_D A [] := hD
        exfalso
        try simp only [fa_lt, fa_le, fa_eq, Int32.reduceToInt] at w389 w390 w391 w392 w393 w394 w395 w396 w501 w502 w503 w504 w505 w506 w507 w508
        omega
      have hP : va_P D vwCl [(q9, .inr (12, [.int 0, .int 4, .int 4, .ref (u11 0), .ref (u11 1), .ref (u11 2), .ref (u11 3), .int 0, .ref (u11 4), .ref (u11 5), .int 0, .ref (u11 6), .ref (u11 7), .ref (u11 8), .ref (u11 9), .ref (u11 10), .ref (u11 11), .ref (u11 12), .int 0, .ref (u11 13), .ref (u11 14), .ref (u11 15), .ref (u11 16), .ref (u11 17), .ref (u11 18), .int 0, .ref (u11 19), .int 0, .int 0, .int 0, .ref (u11 20), .int 0, .int 0, .ref (u11 21), .int 0, .ref (u11 60), .ref (u11 22), .ref (u11 23), .ref (u11 24), .ref (u11 61), .ref (u11 25), .ref (u11 26), .ref (u11 62), .ref (u11 63), .ref (u11 64), .ref (u11 27), .ref (u11 28), .ref (u11 29), .ref (u11 30), .ref (u11 31), .ref (u11 32), .ref (u11 33), .ref (u11 34), .ref (u11 35), .ref (u11 36), .ref (u11 37), .ref (u11 38), .ref (u11 65), .int 0, .int 0, .int 0, .int 0, .int 0, .long 0, .int 0, .int 0, .int 0, .int 0, .int 0, .int (-1), .int 0, .ref (u11 39), .ref (u11 40), .ref (u11 41), .ref (u11 42), .ref (u11 43), .int 0, .int 0, .ref (u11 44), .ref (u11 45), .ref (u11 46), .ref (u11 47), .ref (u11 48), .ref (u11 49), .ref (u11 50), .ref (u11 51), .int 0, .int 0, .int 0, .int 0, .ref (u11 52), .ref (u11 53), .int 0, .ref (u11 54), .ref (u11 55), .ref (u11 56), .ref (u11 57), .ref (u11 58), .ref (u11 59)])), (u11 60, .inl (K 0, 2, .inl u14)), (u11 62, .inl (K 0, 2, .inl u16)), (u11 63, .inl (K 0, 2, .inl u17)), (u11 64, .inl (K 0, 2, .inl u18))] H := hP
      have hD : va_D A [(q9, .inr (12, [.int 0, .int 4, .int 4, .ref (u11 0), .ref (u11 1), .ref (u11 2), .ref (u11 3), .int 0, .ref (u11 4), .ref (u11 5), .int 0, .ref (u11 6), .ref (u11 7), .ref (u11 8), .ref (u11 9), .ref (u11 10), .ref (u11 11), .ref (u11 12), .int 0, .ref (u11 13), .ref (u11 14), .ref (u11 15), .ref (u11 16), .ref (u11 17), .ref (u11 18), .int 0, .ref (u11 19), .int 0, .int 0, .int 0, .ref (u11 20), .int 0, .int 0, .ref (u11 21), .int 0, .ref (u11 60), .ref (u11 22), .ref (u11 23), .ref (u11 24), .ref (u11 61), .ref (u11 25), .ref (u11 26), .ref (u11 62), .ref (u11 63), .ref (u11 64), .ref (u11 27), .ref (u11 28), .ref (u11 29), .ref (u11 30), .ref (u11 31), .ref (u11 32), .ref (u11 33), .ref (u11 34), .ref (u11 35), .ref (u11 36), .ref (u11 37), .ref (u11 38), .ref (u11 65), .int 0, .int 0, .int 0, .int 0, .int 0, .long 0, .int 0, .int 0, .int 0, .int 0, .int 0, .int (-1), .int 0, .ref (u11 39), .ref (u11 40), .ref (u11 41), .ref (u11 42), .ref (u11 43), .int 0, .int 0, .ref (u11 44), .ref (u11 45), .ref (u11 46), .ref (u11 47), .ref (u11 48), .ref (u11 49), .ref (u11 50), .ref (u11 51), .int 0, .int 0, .int 0, .int 0, .ref (u11 52), .ref (u11 53), .int 0, .ref (u11 54), .ref (u11 55), .ref (u11 56), .ref (u11 57), .ref (u11 58), .ref (u11 59)])), (u11 60, .inl (K 0, 2, .inl u14)), (u11 62, .inl (K 0, 2, .inl u16)), (u11 63, .inl (K 0, 2, .inl u17)), (u11 64, .inl (K 0, 2, .inl u18))] := hD
      refine lv_aload_n hx hb dL_law_1460 rfl (lv_at hl 1 rfl) ?_
      refine lv_aload_n hx hb dL_law_1461 rfl (lv_at hl 3 rfl) ?_
      refine lv_iload_n hx hb dL_law_1462 rfl (lv_at hl 0 rfl) ?_
      refine lv_iconst (v := 1) hx hb dL_law_1463 (by decide) ?_
      refine lv_iadd hx hb dL_law_1464 ?_
      refine lv_fixi (y := 1) (by decide) ?_
      refine lv_pc (q := 1465) rfl ?_
      refine va_sld (i := 1) hx hb hX hbl hbA hS (by show ¬ (_ ∨ _); decide) dL_law_1465 ?_
      refine lv_fixi (y := (xs 1)) rfl ?_
      refine uVi (As := [.int (xs 1)]) (rest := [.int (-1)]) (wr := []) [(q9, .inr (12, [.int 0, .int 4, .int 4, .ref (u11 0), .ref (u11 1), .ref (u11 2), .ref (u11 3), .int 0, .ref (u11 4), .ref (u11 5), .int 0, .ref (u11 6), .ref (u11 7), .ref (u11 8), .ref (u11 9), .ref (u11 10), .ref (u11 11), .ref (u11 12), .int 0, .ref (u11 13), .ref (u11 14), .ref (u11 15), .ref (u11 16), .ref (u11 17), .ref (u11 18), .int 0, .ref (u11 19), .int 0, .int 0, .int 0, .ref (u11 20), .int 0, .int 0, .ref (u11 21), .int 0, .ref (u11 60), .ref (u11 22), .ref (u11 23), .ref (u11 24), .ref (u11 61), .ref (u11 25), .ref (u11 26), .ref (u11 62), .ref (u11 63), .ref (u11 64), .ref (u11 27), .ref (u11 28), .ref (u11 29), .ref (u11 30), .ref (u11 31), .ref (u11 32), .ref (u11 33), .ref (u11 34), .ref (u11 35), .ref (u11 36), .ref (u11 37), .ref (u11 38), .ref (u11 65), .int 0, .int 0, .int 0, .int 0, .int 0, .long 0, .int 0, .int 0, .int 0, .int 0, .int 0, .int (-1), .int 0, .ref (u11 39), .ref (u11 40), .ref (u11 41), .ref (u11 42), .ref (u11 43), .int 0, .int 0, .ref (u11 44), .ref (u11 45), .ref (u11 46), .ref (u11 47), .ref (u11 48), .ref (u11 49), .ref (u11 50), .ref (u11 51), .int 0, .int 0, .int 0, .int 0, .ref (u11 52), .ref (u11 53), .int 0, .ref (u11 54), .ref (u11 55), .ref (u11 56), .ref (u11 57), .ref (u11 58), .ref (u11 59)])), (u11 60, .inl (K 0, 2, .inl u14)), (u11 64, .inl (K 0, 2, .inl u18)), (u11 62, .inl (K 0, 2, .inl u16)), (u11 63, .inl (K 0, 2, .inl u17))] B hl.1 hP hD hS [0, 1, 4, 2, 3] [] rfl rfl rfl (kX12_count_177 l D K _ q9 (u11 60) (u11 64) (u11 62) (u11 63) (u11 0) (u11 1) (u11 2) (u11 3) (u11 4) (u11 5) (u11 6) (u11 7) (u11 8) (u11 9) (u11 10) (u11 11) (u11 12) (u11 13) (u11 14) (u11 15) (u11 16) (u11 17) (u11 18) (u11 19) (u11 20) (u11 21) (u11 22) (u11 23) (u11 24) (u11 61) (u11 25) (u11 26) (u11 27) (u11 28) (u11 29) (u11 30) (u11 31) (u11 32) (u11 33) (u11 34) (u11 35) (u11 36) (u11 37) (u11 38) (u11 65) (u11 39) (u11 40) (u11 41) (u11 42) (u11 43) (u11 44) (u11 45) (u11 46) (u11 47) (u11 48) (u11 49) (u11 50) (u11 51) (u11 52) (u11 53) (u11 54) (u11 55) (u11 56) (u11 57) (u11 58) (u11 59) u14 u18 u16 u17 (xs 1) a20 a24 a22 a23) wd_X12_count mml_L_154 rfl rfl rfl rfl ⟨Nat.le_of_ble_eq_true rfl, Nat.le_of_ble_eq_true rfl⟩ (Nat.le_of_ble_eq_true rfl) ⟨Nat.le_of_ble_eq_true rfl, Nat.le_of_ble_eq_true rfl⟩ dL_law_1466 (fun r509 u H locs hw hP hD hS => ?_)
      try dsimp only at hw
      rcases hw with ⟨rfl, w510⟩ | ⟨rfl, w511⟩ | ⟨rfl, ⟨w512, w513, w514, w515, w516, w517, w518⟩⟩ | ⟨rfl, ⟨w519, w520, w521, w522, w523, w524, w525, w526⟩⟩ | ⟨rfl, ⟨w527, w528, w529, w530, w531, w532, w533, w534⟩⟩
      · have hP : va_P D vwCl [] H := hP
        have hD : va_D A [] := hD
        exfalso
        try simp only [fa_lt, fa_le, fa_eq, Int32.reduceToInt] at w397 w398 w399 w400 w401 w402 w403 w404 w510
        omega
      · have hP : va_P D vwCl [] H := hP
        have hD : va_D A [] := hD
        exfalso
        try simp only [fa_lt, fa_le, fa_eq, Int32.reduceToInt] at w397 w398 w399 w400 w401 w402 w403 w404 w511
        omega
      · have hP : va_P D vwCl [] H := hP
        have hD : va_D A [] := hD
        exfalso
        try simp only [fa_lt, fa_le, fa_eq, Int32.reduceToInt] at w397 w398 w399 w400 w401 w402 w403 w404 w512 w513 w514 w515 w516 w517 w518
        omega
      · have hP : va_P D vwCl [] H := hP
        have hD : va_D A [] := hD
        exfalso
        try simp only [fa_lt, fa_le, fa_eq, Int32.reduceToInt] at w397 w398 w399 w400 w401 w402 w403 w404 w519 w520 w521 w522 w523 w524 w525 w526
        omega
      have hP : va_P D vwCl [] H := hP
      have hD : va_D A [] := hD
      refine lv_icmp_eq (tgt := 1474) hx hb dL_law_1469 (by decide) (fun _ => ?_) (fun h9 => absurd (by decide) h9)
      refine lv_iinc (v := 7) (lv' := [(3, .int 7), (2, .ref q9), (1, .ref q1), (0, .ref b)]) hx hb dL_law_1474 hl (k := 0) rfl (by decide) (by decide) rfl (fun ls hl => ?_)
      refine lv_goto (tgt := 18) hx hb dL_law_1477 (by decide) ?_
      refine lv_iload_n hx hb dL_law_18 rfl (lv_at hl 0 rfl) ?_
      refine lv_pc (q := 19) rfl ?_
      refine lv_aload_n hx hb dL_law_19 rfl (lv_at hl 3 rfl) ?_
      refine va_slen hx hb hX hbl hbA hS dL_law_20 ?_
      refine lv_fixi (y := 7) (by decide) ?_
      refine lv_bipush (v := 7) hx hb dL_law_21 (by decide) ?_
      refine lv_isub hx hb dL_law_23 ?_
      refine lv_fixi (y := 0) (by decide) ?_
      refine lv_icmp_gt (tgt := 1480) hx hb dL_law_24 (by decide) (fun _ => ?_) (fun h9 => absurd (by decide) h9)
      refine lv_iconst (v := 1) hx hb dL_law_1480 (by decide) ?_
      refine lv_pc (q := 1481) rfl ?_
      refine va_forget (fun q hq => by have h9 := hS.2.2 q hq; rw [hAe] at h9; exact h9) ?_
      refine W.widen (k := 600000) (n := 7302250) (by decide) (by decide) ?_
      exact lw_ret hx hb hr hlocks dL_law_1481
  have hlt : L = 0 ∨ L = 1 ∨ L = 2 ∨ L = 3 ∨ L = 4 ∨ L = 5 ∨ L = 6 := by omega
  rcases hlt with rfl | rfl | rfl | rfl | rfl | rfl | rfl
  · refine lv_pc (q := 18) rfl ?_
    refine lv_iload_n hx hb dL_law_18 rfl (lv_at hl 0 rfl) ?_
    refine lv_aload_n hx hb dL_law_19 rfl (lv_at hl 3 rfl) ?_
    refine va_slen hx hb hX hbl hbA hS dL_law_20 ?_
    refine lv_fixi (y := 0) (by decide) ?_
    refine lv_bipush (v := 7) hx hb dL_law_21 (by decide) ?_
    refine lv_isub hx hb dL_law_23 ?_
    refine lv_fixi (y := (-7)) (by decide) ?_
    refine lv_icmp_gt (tgt := 1480) hx hb dL_law_24 (by decide) (fun _ => ?_) (fun h9 => absurd (by decide) h9)
    refine lv_pc (q := 1480) rfl ?_
    refine lv_iconst (v := 1) hx hb dL_law_1480 (by decide) ?_
    refine va_forget (fun q hq => by have h9 := hS.2.2 q hq; rw [hAe] at h9; exact h9) ?_
    refine W.widen (k := 600000) (n := 7302250) (by decide) (by decide) ?_
    exact lw_ret hx hb hr hlocks dL_law_1481
  · refine lv_pc (q := 18) rfl ?_
    refine lv_iload_n hx hb dL_law_18 rfl (lv_at hl 0 rfl) ?_
    refine lv_aload_n hx hb dL_law_19 rfl (lv_at hl 3 rfl) ?_
    refine va_slen hx hb hX hbl hbA hS dL_law_20 ?_
    refine lv_fixi (y := 1) (by decide) ?_
    refine lv_bipush (v := 7) hx hb dL_law_21 (by decide) ?_
    refine lv_isub hx hb dL_law_23 ?_
    refine lv_fixi (y := (-6)) (by decide) ?_
    refine lv_icmp_gt (tgt := 1480) hx hb dL_law_24 (by decide) (fun _ => ?_) (fun h9 => absurd (by decide) h9)
    refine lv_pc (q := 1480) rfl ?_
    refine lv_iconst (v := 1) hx hb dL_law_1480 (by decide) ?_
    refine va_forget (fun q hq => by have h9 := hS.2.2 q hq; rw [hAe] at h9; exact h9) ?_
    refine W.widen (k := 600000) (n := 7302250) (by decide) (by decide) ?_
    exact lw_ret hx hb hr hlocks dL_law_1481
  · refine lv_pc (q := 18) rfl ?_
    refine lv_iload_n hx hb dL_law_18 rfl (lv_at hl 0 rfl) ?_
    refine lv_aload_n hx hb dL_law_19 rfl (lv_at hl 3 rfl) ?_
    refine va_slen hx hb hX hbl hbA hS dL_law_20 ?_
    refine lv_fixi (y := 2) (by decide) ?_
    refine lv_bipush (v := 7) hx hb dL_law_21 (by decide) ?_
    refine lv_isub hx hb dL_law_23 ?_
    refine lv_fixi (y := (-5)) (by decide) ?_
    refine lv_icmp_gt (tgt := 1480) hx hb dL_law_24 (by decide) (fun _ => ?_) (fun h9 => absurd (by decide) h9)
    refine lv_pc (q := 1480) rfl ?_
    refine lv_iconst (v := 1) hx hb dL_law_1480 (by decide) ?_
    refine va_forget (fun q hq => by have h9 := hS.2.2 q hq; rw [hAe] at h9; exact h9) ?_
    refine W.widen (k := 600000) (n := 7302250) (by decide) (by decide) ?_
    exact lw_ret hx hb hr hlocks dL_law_1481
  · refine lv_pc (q := 18) rfl ?_
    refine lv_iload_n hx hb dL_law_18 rfl (lv_at hl 0 rfl) ?_
    refine lv_aload_n hx hb dL_law_19 rfl (lv_at hl 3 rfl) ?_
    refine va_slen hx hb hX hbl hbA hS dL_law_20 ?_
    refine lv_fixi (y := 3) (by decide) ?_
    refine lv_bipush (v := 7) hx hb dL_law_21 (by decide) ?_
    refine lv_isub hx hb dL_law_23 ?_
    refine lv_fixi (y := (-4)) (by decide) ?_
    refine lv_icmp_gt (tgt := 1480) hx hb dL_law_24 (by decide) (fun _ => ?_) (fun h9 => absurd (by decide) h9)
    refine lv_pc (q := 1480) rfl ?_
    refine lv_iconst (v := 1) hx hb dL_law_1480 (by decide) ?_
    refine va_forget (fun q hq => by have h9 := hS.2.2 q hq; rw [hAe] at h9; exact h9) ?_
    refine W.widen (k := 600000) (n := 7302250) (by decide) (by decide) ?_
    exact lw_ret hx hb hr hlocks dL_law_1481
  · refine lv_pc (q := 18) rfl ?_
    refine lv_iload_n hx hb dL_law_18 rfl (lv_at hl 0 rfl) ?_
    refine lv_aload_n hx hb dL_law_19 rfl (lv_at hl 3 rfl) ?_
    refine va_slen hx hb hX hbl hbA hS dL_law_20 ?_
    refine lv_fixi (y := 4) (by decide) ?_
    refine lv_bipush (v := 7) hx hb dL_law_21 (by decide) ?_
    refine lv_isub hx hb dL_law_23 ?_
    refine lv_fixi (y := (-3)) (by decide) ?_
    refine lv_icmp_gt (tgt := 1480) hx hb dL_law_24 (by decide) (fun _ => ?_) (fun h9 => absurd (by decide) h9)
    refine lv_pc (q := 1480) rfl ?_
    refine lv_iconst (v := 1) hx hb dL_law_1480 (by decide) ?_
    refine va_forget (fun q hq => by have h9 := hS.2.2 q hq; rw [hAe] at h9; exact h9) ?_
    refine W.widen (k := 600000) (n := 7302250) (by decide) (by decide) ?_
    exact lw_ret hx hb hr hlocks dL_law_1481
  · refine lv_pc (q := 18) rfl ?_
    refine lv_iload_n hx hb dL_law_18 rfl (lv_at hl 0 rfl) ?_
    refine lv_aload_n hx hb dL_law_19 rfl (lv_at hl 3 rfl) ?_
    refine va_slen hx hb hX hbl hbA hS dL_law_20 ?_
    refine lv_fixi (y := 5) (by decide) ?_
    refine lv_bipush (v := 7) hx hb dL_law_21 (by decide) ?_
    refine lv_isub hx hb dL_law_23 ?_
    refine lv_fixi (y := (-2)) (by decide) ?_
    refine lv_icmp_gt (tgt := 1480) hx hb dL_law_24 (by decide) (fun _ => ?_) (fun h9 => absurd (by decide) h9)
    refine lv_pc (q := 1480) rfl ?_
    refine lv_iconst (v := 1) hx hb dL_law_1480 (by decide) ?_
    refine va_forget (fun q hq => by have h9 := hS.2.2 q hq; rw [hAe] at h9; exact h9) ?_
    refine W.widen (k := 600000) (n := 7302250) (by decide) (by decide) ?_
    exact lw_ret hx hb hr hlocks dL_law_1481
  · refine lv_pc (q := 18) rfl ?_
    refine lv_iload_n hx hb dL_law_18 rfl (lv_at hl 0 rfl) ?_
    refine lv_aload_n hx hb dL_law_19 rfl (lv_at hl 3 rfl) ?_
    refine va_slen hx hb hX hbl hbA hS dL_law_20 ?_
    refine lv_fixi (y := 6) (by decide) ?_
    refine lv_bipush (v := 7) hx hb dL_law_21 (by decide) ?_
    refine lv_isub hx hb dL_law_23 ?_
    refine lv_fixi (y := (-1)) (by decide) ?_
    refine lv_icmp_gt (tgt := 1480) hx hb dL_law_24 (by decide) (fun _ => ?_) (fun h9 => absurd (by decide) h9)
    refine lv_pc (q := 1480) rfl ?_
    refine lv_iconst (v := 1) hx hb dL_law_1480 (by decide) ?_
    refine va_forget (fun q hq => by have h9 := hS.2.2 q hq; rw [hAe] at h9; exact h9) ?_
    refine W.widen (k := 600000) (n := 7302250) (by decide) (by decide) ?_
    exact lw_ret hx hb hr hlocks dL_law_1481

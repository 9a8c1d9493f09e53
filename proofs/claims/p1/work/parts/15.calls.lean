def qkX6_take_113 (ph0 : Nat) (ph1 : Nat) (pg2 : Nat) (pf3 : Nat → Int32) : ((Nat → Int32)) → Prop := (fun (u : (Nat → Int32)) => True)
def vkX6_take_113 (K : Nat → ClassId) (ph0 : Nat) (ph1 : Nat) (pg2 : Nat) (pf3 : Nat → Int32) : ((Nat → Int32)) → va_W := (fun (u : (Nat → Int32)) => [(ph0, .inr (6, [.ref ph1, .ref pg2, .int 1, .int 0, .int 1])), (ph1, .inl (K 0, 252, .inl u))])
set_option maxHeartbeats 4000000 in
set_option maxRecDepth 100000 in
theorem kX6_take_113 (l : Launch) (D : va_G) (K : Nat → ClassId) (sz : Nat) (ph0 : Nat) (ph1 : Nat) (pg2 : Nat) (pf3 : Nat → Int32) : uMv l yX6_take cX6_take 3 { frames := 0, cells := 0, slots := 0, locals := 0 } [.ref ph0, .int 0, .int 0] D K [(ph0, .inr (6, [.ref ph1, .ref pg2, .int 0, .int 12, .int 1])), (ph1, .inl (K 0, 252, .inl pf3))] sz (qkX6_take_113 ph0 ph1 pg2 pf3) (vkX6_take_113 K ph0 ph1 pg2 pf3) := by
  refine uMet (Qc := uQv D (qkX6_take_113 ph0 ph1 pg2 pf3) (vkX6_take_113 K ph0 ph1 pg2 pf3)) (ret := none) (by decide) (Nat.le_of_ble_eq_true rfl) ?_
  intro p e s m below meth c A ls hAe hsz B hP hD hS hl
  have hx := B.1
  have hb := B.2.1
  have hl : lv_has ls 3 [(0, .ref ph0), (1, .int 0), (2, .int 0)] := hl
  refine lv_iload_n hx hb dX6_take_0 rfl (lv_at hl 2 rfl) ?_
  refine lv_aload_n hx hb dX6_take_1 rfl (lv_at hl 0 rfl) ?_
  refine uGet (ci := 6) (C := RX6) (T := TX6) (N := 5) (v := .int 12) B inlX6 hP 0 rfl rfl 3 rfl mfl_X6_22 rfl rfl dX6_take_2 ?_
  refine lv_icmp_ge (tgt := 18) hx hb dX6_take_5 (by decide) (fun h9 => absurd h9 (by decide)) (fun _ => ?_)
  refine lv_aload_n hx hb dX6_take_8 rfl (lv_at hl 0 rfl) ?_
  refine lv_pc (q := 9) rfl ?_
  refine lv_iload_n hx hb dX6_take_9 rfl (lv_at hl 2 rfl) ?_
  refine uPut (ci := 6) (C := RX6) (T := TX6) (N := 5) (ws' := [(ph0, .inr (6, [.ref ph1, .ref pg2, .int 0, .int 0, .int 1])), (ph1, .inl (K 0, 252, .inl pf3))]) B inlX6 tyX6_ok nmX6 hP hD hS 0 rfl rfl 3 rfl mfl_X6_22 rfl rfl rfl rfl rfl rfl dX6_take_10 (fun H locs hP hD hS => ?_)
  refine lv_aload_n hx hb dX6_take_13 rfl (lv_at hl 0 rfl) ?_
  refine lv_iconst (v := 0) hx hb dX6_take_14 (by decide) ?_
  refine uPut (ci := 6) (C := RX6) (T := TX6) (N := 5) (ws' := [(ph0, .inr (6, [.ref ph1, .ref pg2, .int 0, .int 0, .int 1])), (ph1, .inl (K 0, 252, .inl pf3))]) B inlX6 tyX6_ok nmX6 hP hD hS 0 rfl rfl 2 rfl mfl_X6_18 rfl rfl rfl rfl rfl rfl dX6_take_15 (fun H locs hP hD hS => ?_)
  refine lv_aload_n hx hb dX6_take_18 rfl (lv_at hl 0 rfl) ?_
  refine lv_pc (q := 19) rfl ?_
  refine uGet (ci := 6) (C := RX6) (T := TX6) (N := 5) (v := .int 0) B inlX6 hP 0 rfl rfl 2 rfl mfl_X6_18 rfl rfl dX6_take_19 ?_
  refine lv_sipush (v := 252) hx hb dX6_take_22 (by decide) ?_
  refine lv_icmp_ge (tgt := 48) hx hb dX6_take_25 (by decide) (fun h9 => absurd h9 (by decide)) (fun _ => ?_)
  refine lv_aload_n hx hb dX6_take_28 rfl (lv_at hl 0 rfl) ?_
  refine uGet (ci := 6) (C := RX6) (T := TX6) (N := 5) (v := .ref ph1) B inlX6 hP 0 rfl rfl 0 rfl mfl_X6_11 rfl rfl dX6_take_29 ?_
  refine lv_aload_n hx hb dX6_take_32 rfl (lv_at hl 0 rfl) ?_
  refine lv_pc (q := 33) rfl ?_
  refine uGet (ci := 6) (C := RX6) (T := TX6) (N := 5) (v := .int 0) B inlX6 hP 0 rfl rfl 2 rfl mfl_X6_18 rfl rfl dX6_take_33 ?_
  refine lv_iload_n hx hb dX6_take_36 rfl (lv_at hl 1 rfl) ?_
  refine uIast (i := 0) (j := 0) (ws' := [(ph0, .inr (6, [.ref ph1, .ref pg2, .int 0, .int 0, .int 1])), (ph1, .inl (K 0, 252, .inl (upd pf3 0 0)))]) B hP hD hS 1 rfl (by decide) rfl rfl dX6_take_37 (fun H locs hP hD hS => ?_)
  refine lv_aload_n hx hb dX6_take_38 rfl (lv_at hl 0 rfl) ?_
  refine lv_dup hx hb dX6_take_39 rfl ?_
  refine uGet (ci := 6) (C := RX6) (T := TX6) (N := 5) (v := .int 0) B inlX6 hP 0 rfl rfl 2 rfl mfl_X6_18 rfl rfl dX6_take_40 ?_
  refine lv_pc (q := 43) rfl ?_
  refine lv_iconst (v := 1) hx hb dX6_take_43 (by decide) ?_
  refine lv_iadd hx hb dX6_take_44 ?_
  refine lv_fixi (y := 1) (by decide) ?_
  refine uPut (ci := 6) (C := RX6) (T := TX6) (N := 5) (ws' := [(ph0, .inr (6, [.ref ph1, .ref pg2, .int 1, .int 0, .int 1])), (ph1, .inl (K 0, 252, .inl (upd pf3 0 0)))]) B inlX6 tyX6_ok nmX6 hP hD hS 0 rfl rfl 2 rfl mfl_X6_18 rfl rfl rfl rfl rfl rfl dX6_take_45 (fun H locs hP hD hS => ?_)
  exact uRv (upd pf3 0 0) B trivial (uSub hP [0, 1] rfl) (hD.sub [0, 1] rfl rfl) hS dX6_take_48
def qkX6_gather_114 (ph0 : Nat) (ph1 : Nat) (ph2 : Nat) (pg3 : Nat) (pg4 : Nat) (pg5 : Nat) (pg6 : Nat) (pg7 : Nat) (pg8 : Nat) (pf9 : Nat → Int32) : ((Nat → Int32)) → Prop := (fun (u : (Nat → Int32)) => True)
def vkX6_gather_114 (K : Nat → ClassId) (ph0 : Nat) (ph1 : Nat) (ph2 : Nat) (pg3 : Nat) (pg4 : Nat) (pg5 : Nat) (pg6 : Nat) (pg7 : Nat) (pg8 : Nat) (pf9 : Nat → Int32) : ((Nat → Int32)) → va_W := (fun (u : (Nat → Int32)) => [(ph0, .inr (6, [.ref ph2, .ref pg3, .int 1, .int 0, .int 1])), (ph1, .inr (1, [.ref pg4, .ref pg5, .ref pg6, .ref pg7, .ref pg8, .int 0, .int 0])), (ph2, .inl (K 0, 252, .inl u))])
set_option maxHeartbeats 4000000 in
set_option maxRecDepth 100000 in
theorem kX6_gather_114 (l : Launch) (D : va_G) (K : Nat → ClassId) (sz : Nat) (ph0 : Nat) (ph1 : Nat) (ph2 : Nat) (pg3 : Nat) (pg4 : Nat) (pg5 : Nat) (pg6 : Nat) (pg7 : Nat) (pg8 : Nat) (pf9 : Nat → Int32) : uMv l yX6_gather cX6_gather 6 { frames := 2, cells := 0, slots := 0, locals := 49 } [.ref ph0, .ref ph1] D K [(ph0, .inr (6, [.ref ph2, .ref pg3, .int 0, .int (-1), .int 1])), (ph1, .inr (1, [.ref pg4, .ref pg5, .ref pg6, .ref pg7, .ref pg8, .int 0, .int 0])), (ph2, .inl (K 0, 252, .inl pf9))] sz (qkX6_gather_114 ph0 ph1 ph2 pg3 pg4 pg5 pg6 pg7 pg8 pf9) (vkX6_gather_114 K ph0 ph1 ph2 pg3 pg4 pg5 pg6 pg7 pg8 pf9) := by
  refine uMet (Qc := uQv D (qkX6_gather_114 ph0 ph1 ph2 pg3 pg4 pg5 pg6 pg7 pg8 pf9) (vkX6_gather_114 K ph0 ph1 ph2 pg3 pg4 pg5 pg6 pg7 pg8 pf9)) (ret := none) (by decide) (Nat.le_of_ble_eq_true rfl) ?_
  intro p e s m below meth c A ls hAe hsz B hP hD hS hl
  have hx := B.1
  have hb := B.2.1
  have hl : lv_has ls 6 [(0, .ref ph0), (1, .ref ph1)] := hl
  refine lv_aload_n hx hb dX6_gather_0 rfl (lv_at hl 1 rfl) ?_
  refine uGet (ci := 1) (C := RX1) (T := TX1) (N := 7) (v := .int 0) B inlX1 hP 1 rfl rfl 6 rfl mfl_X6_32 rfl rfl dX6_gather_1 ?_
  refine lv_istore_n (lv' := [(2, .int 0), (0, .ref ph0), (1, .ref ph1)]) hx hb dX6_gather_4 rfl hl (by decide) rfl (fun ls hl => ?_)
  refine lv_iconst (v := 0) hx hb dX6_gather_5 (by decide) ?_
  refine lv_istore_n (lv' := [(3, .int 0), (2, .int 0), (0, .ref ph0), (1, .ref ph1)]) hx hb dX6_gather_6 rfl hl (by decide) rfl (fun ls hl => ?_)
  refine lv_pc (q := 7) rfl ?_
  refine lv_aload_n hx hb dX6_gather_7 rfl (lv_at hl 2 rfl) ?_
  refine lv_bipush (v := 12) hx hb dX6_gather_8 (by decide) ?_
  refine uPut (ci := 6) (C := RX6) (T := TX6) (N := 5) (ws' := [(ph0, .inr (6, [.ref ph2, .ref pg3, .int 0, .int 12, .int 1])), (ph1, .inr (1, [.ref pg4, .ref pg5, .ref pg6, .ref pg7, .ref pg8, .int 0, .int 0])), (ph2, .inl (K 0, 252, .inl pf9))]) B inlX6 tyX6_ok nmX6 hP hD hS 0 rfl rfl 3 rfl mfl_X6_22 rfl rfl rfl rfl rfl rfl dX6_gather_10 (fun H locs hP hD hS => ?_)
  refine lv_iconst (v := 0) hx hb dX6_gather_13 (by decide) ?_
  refine lv_istore (lv' := [(4, .int 0), (3, .int 0), (2, .int 0), (0, .ref ph0), (1, .ref ph1)]) hx hb dX6_gather_14 hl (by decide) rfl (fun ls hl => ?_)
  refine lv_iload hx hb dX6_gather_16 (lv_at hl 0 rfl) ?_
  refine lv_pc (q := 18) rfl ?_
  refine lv_sipush (v := 4096) hx hb dX6_gather_18 (by decide) ?_
  refine lv_icmp_ge (tgt := 80) hx hb dX6_gather_21 (by decide) (fun h9 => absurd h9 (by decide)) (fun _ => ?_)
  refine lv_iload_n hx hb dX6_gather_24 rfl (lv_at hl 1 rfl) ?_
  refine uSi (As := [.int 0]) (rest := []) (wr := [(ph0, .inr (6, [.ref ph2, .ref pg3, .int 0, .int 12, .int 1])), (ph1, .inr (1, [.ref pg4, .ref pg5, .ref pg6, .ref pg7, .ref pg8, .int 0, .int 0])), (ph2, .inl (K 0, 252, .inl pf9))]) [] B hl.1 hP hD hS [] [0, 1, 2] rfl rfl rfl (kJ6_bitCount_0f7a4_112 l D K _ ) wd_J6_bitCount_0f7a4 mml_X6_48 rfl rfl ⟨Nat.le_of_ble_eq_true rfl, Nat.le_of_ble_eq_true rfl⟩ (Nat.le_of_ble_eq_true rfl) ⟨Nat.le_of_ble_eq_true rfl, Nat.le_of_ble_eq_true rfl⟩ dX6_gather_25 (fun r1 u H locs hw hP hD hS => ?_)
  try dsimp only at hw
  rcases hw with rfl
  have hP : va_P D vwCl [(ph0, .inr (6, [.ref ph2, .ref pg3, .int 0, .int 12, .int 1])), (ph1, .inr (1, [.ref pg4, .ref pg5, .ref pg6, .ref pg7, .ref pg8, .int 0, .int 0])), (ph2, .inl (K 0, 252, .inl pf9))] H := hP
  have hD : va_D A [(ph0, .inr (6, [.ref ph2, .ref pg3, .int 0, .int 12, .int 1])), (ph1, .inr (1, [.ref pg4, .ref pg5, .ref pg6, .ref pg7, .ref pg8, .int 0, .int 0])), (ph2, .inl (K 0, 252, .inl pf9))] := hD
  refine lv_istore (lv' := [(5, .int 0), (4, .int 0), (3, .int 0), (2, .int 0), (0, .ref ph0), (1, .ref ph1)]) hx hb dX6_gather_28 hl (by decide) rfl (fun ls hl => ?_)
  refine lv_iload hx hb dX6_gather_30 (lv_at hl 0 rfl) ?_
  refine lv_pc (q := 32) rfl ?_
  refine lv_aload_n hx hb dX6_gather_32 rfl (lv_at hl 4 rfl) ?_
  refine uGet (ci := 6) (C := RX6) (T := TX6) (N := 5) (v := .int 12) B inlX6 hP 0 rfl rfl 3 rfl mfl_X6_22 rfl rfl dX6_gather_33 ?_
  refine lv_icmp_gt (tgt := 54) hx hb dX6_gather_36 (by decide) (fun h9 => absurd h9 (by decide)) (fun _ => ?_)
  refine lv_aload_n hx hb dX6_gather_39 rfl (lv_at hl 5 rfl) ?_
  refine lv_iload_n hx hb dX6_gather_40 rfl (lv_at hl 2 rfl) ?_
  refine uVi (As := [.int 0]) (rest := []) (wr := [(ph0, .inr (6, [.ref ph2, .ref pg3, .int 0, .int 12, .int 1])), (ph2, .inl (K 0, 252, .inl pf9))]) [(ph1, .inr (1, [.ref pg4, .ref pg5, .ref pg6, .ref pg7, .ref pg8, .int 0, .int 0]))] B hl.1 hP hD hS [1] [0, 2] rfl rfl rfl (kX1_isOneWith_111 l D K _ ph1 pg4 pg5 pg6 pg7 pg8) wd_X1_isOneWith mml_X6_37 rfl rfl rfl rfl ⟨Nat.le_of_ble_eq_true rfl, Nat.le_of_ble_eq_true rfl⟩ (Nat.le_of_ble_eq_true rfl) ⟨Nat.le_of_ble_eq_true rfl, Nat.le_of_ble_eq_true rfl⟩ dX6_gather_41 (fun r2 u H locs hw hP hD hS => ?_)
  try dsimp only at hw
  rcases hw with rfl
  have hP : va_P D vwCl [(ph0, .inr (6, [.ref ph2, .ref pg3, .int 0, .int 12, .int 1])), (ph2, .inl (K 0, 252, .inl pf9)), (ph1, .inr (1, [.ref pg4, .ref pg5, .ref pg6, .ref pg7, .ref pg8, .int 0, .int 0]))] H := hP
  have hD : va_D A [(ph0, .inr (6, [.ref ph2, .ref pg3, .int 0, .int 12, .int 1])), (ph2, .inl (K 0, 252, .inl pf9)), (ph1, .inr (1, [.ref pg4, .ref pg5, .ref pg6, .ref pg7, .ref pg8, .int 0, .int 0]))] := hD
  refine lv_pc (q := 44) rfl ?_
  refine lv_if_eq (tgt := 54) hx hb dX6_gather_44 (by decide) (fun h9 => absurd h9 (by decide)) (fun _ => ?_)
  refine lv_aload_n hx hb dX6_gather_47 rfl (lv_at hl 4 rfl) ?_
  refine lv_iload_n hx hb dX6_gather_48 rfl (lv_at hl 2 rfl) ?_
  refine lv_iload hx hb dX6_gather_49 (lv_at hl 0 rfl) ?_
  refine uVv (As := [.int 0, .int 0]) (rest := []) (wr := [(ph1, .inr (1, [.ref pg4, .ref pg5, .ref pg6, .ref pg7, .ref pg8, .int 0, .int 0]))]) [(ph0, .inr (6, [.ref ph2, .ref pg3, .int 0, .int 12, .int 1])), (ph2, .inl (K 0, 252, .inl pf9))] B hl.1 hP hD hS [0, 1] [2] rfl rfl rfl (kX6_take_113 l D K _ ph0 ph2 pg3 pf9) wd_X6_take mml_X6_54 rfl rfl rfl rfl ⟨Nat.le_of_ble_eq_true rfl, Nat.le_of_ble_eq_true rfl⟩ (Nat.le_of_ble_eq_true rfl) ⟨Nat.le_of_ble_eq_true rfl, Nat.le_of_ble_eq_true rfl⟩ dX6_gather_51 (fun u H locs hw hP hD hS => ?_)
  obtain ⟨u4, e9⟩ : ∃ y, y = u := ⟨_, rfl⟩
  subst e9
  try dsimp only at hw
  have hP : va_P D vwCl [(ph1, .inr (1, [.ref pg4, .ref pg5, .ref pg6, .ref pg7, .ref pg8, .int 0, .int 0])), (ph0, .inr (6, [.ref ph2, .ref pg3, .int 1, .int 0, .int 1])), (ph2, .inl (K 0, 252, .inl u4))] H := hP
  have hD : va_D A [(ph1, .inr (1, [.ref pg4, .ref pg5, .ref pg6, .ref pg7, .ref pg8, .int 0, .int 0])), (ph0, .inr (6, [.ref ph2, .ref pg3, .int 1, .int 0, .int 1])), (ph2, .inl (K 0, 252, .inl u4))] := hD
  refine lv_iload_n hx hb dX6_gather_54 rfl (lv_at hl 2 rfl) ?_
  refine lv_pc (q := 55) rfl ?_
  refine lv_iload_n hx hb dX6_gather_55 rfl (lv_at hl 3 rfl) ?_
  refine lv_isub hx hb dX6_gather_56 ?_
  refine lv_fixi (y := 0) (by decide) ?_
  refine lv_iload_n hx hb dX6_gather_57 rfl (lv_at hl 3 rfl) ?_
  refine lv_iand hx hb dX6_gather_58 ?_
  refine lv_fixi (y := 0) (by decide) ?_
  refine lv_istore_n (lv' := [(3, .int 0), (5, .int 0), (4, .int 0), (2, .int 0), (0, .ref ph0), (1, .ref ph1)]) hx hb dX6_gather_59 rfl hl (by decide) rfl (fun ls hl => ?_)
  refine lv_iload_n hx hb dX6_gather_60 rfl (lv_at hl 0 rfl) ?_
  refine lv_pc (q := 61) rfl ?_
  refine lv_if_eq (tgt := 80) hx hb dX6_gather_61 (by decide) (fun _ => ?_) (fun h9 => absurd (by decide) h9)
  exact uRv u4 B trivial (uSub hP [1, 0, 2] rfl) (hD.sub [1, 0, 2] rfl rfl) hS dX6_gather_80
def qkX6_countShares_115 (ph0 : Nat) (ph1 : Nat) (ph2 : Nat) (pf3 : Nat → Int32) (pf4 : Nat → Int32) : ((Nat → Int32)) → Prop := (fun (u : (Nat → Int32)) => True)
def vkX6_countShares_115 (K : Nat → ClassId) (ph0 : Nat) (ph1 : Nat) (ph2 : Nat) (pf3 : Nat → Int32) (pf4 : Nat → Int32) : ((Nat → Int32)) → va_W := (fun (u : (Nat → Int32)) => [(ph0, .inr (6, [.ref ph2, .ref ph1, .int 1, .int 0, .int 1])), (ph1, .inl (K 0, 12, .inl u)), (ph2, .inl (K 0, 252, .inl pf4))])
set_option maxHeartbeats 4000000 in
set_option maxRecDepth 100000 in
theorem kX6_countShares_115 (l : Launch) (D : va_G) (K : Nat → ClassId) (sz : Nat) (ph0 : Nat) (ph1 : Nat) (ph2 : Nat) (pf3 : Nat → Int32) (pf4 : Nat → Int32) : uMv l yX6_countShares cX6_countShares 3 { frames := 1, cells := 0, slots := 0, locals := 23 } [.ref ph0] D K [(ph0, .inr (6, [.ref ph2, .ref ph1, .int 1, .int 0, .int 1])), (ph1, .inl (K 0, 12, .inl pf3)), (ph2, .inl (K 0, 252, .inl pf4))] sz (qkX6_countShares_115 ph0 ph1 ph2 pf3 pf4) (vkX6_countShares_115 K ph0 ph1 ph2 pf3 pf4) := by
  refine uMet (Qc := uQv D (qkX6_countShares_115 ph0 ph1 ph2 pf3 pf4) (vkX6_countShares_115 K ph0 ph1 ph2 pf3 pf4)) (ret := none) (by decide) (Nat.le_of_ble_eq_true rfl) ?_
  intro p e s m below meth c A ls hAe hsz B hP hD hS hl
  have hx := B.1
  have hb := B.2.1
  have hl : lv_has ls 3 [(0, .ref ph0)] := hl
  refine lv_aload_n hx hb dX6_countShares_0 rfl (lv_at hl 0 rfl) ?_
  refine uGet (ci := 6) (C := RX6) (T := TX6) (N := 5) (v := .ref ph1) B inlX6 hP 0 rfl rfl 1 rfl mfl_X6_15 rfl rfl dX6_countShares_1 ?_
  refine lv_iconst (v := 0) hx hb dX6_countShares_4 (by decide) ?_
  refine uSv (As := [.ref ph1, .int 0]) (rest := []) (wr := [(ph0, .inr (6, [.ref ph2, .ref ph1, .int 1, .int 0, .int 1])), (ph2, .inl (K 0, 252, .inl pf4))]) [(ph1, .inl (K 0, 12, .inl pf3))] B hl.1 hP hD hS [1] [0, 2] rfl rfl rfl (kJ7_fill_53178_96 l D K _ ph1 pf3) wd_J7_fill_53178 mml_X6_58 rfl rfl ⟨Nat.le_of_ble_eq_true rfl, Nat.le_of_ble_eq_true rfl⟩ (Nat.le_of_ble_eq_true rfl) ⟨Nat.le_of_ble_eq_true rfl, Nat.le_of_ble_eq_true rfl⟩ dX6_countShares_5 (fun u H locs hw hP hD hS => ?_)
  obtain ⟨u2, e9⟩ : ∃ y, y = u := ⟨_, rfl⟩
  subst e9
  try dsimp only at hw
  have hP : va_P D vwCl [(ph0, .inr (6, [.ref ph2, .ref ph1, .int 1, .int 0, .int 1])), (ph2, .inl (K 0, 252, .inl pf4)), (ph1, .inl (K 0, 12, .inl u2))] H := hP
  have hD : va_D A [(ph0, .inr (6, [.ref ph2, .ref ph1, .int 1, .int 0, .int 1])), (ph2, .inl (K 0, 252, .inl pf4)), (ph1, .inl (K 0, 12, .inl u2))] := hD
  refine lv_iconst (v := 0) hx hb dX6_countShares_8 (by decide) ?_
  refine lv_pc (q := 9) rfl ?_
  refine lv_istore_n (lv' := [(1, .int 0), (0, .ref ph0)]) hx hb dX6_countShares_9 rfl hl (by decide) rfl (fun ls hl => ?_)
  refine lv_iload_n hx hb dX6_countShares_10 rfl (lv_at hl 0 rfl) ?_
  refine lv_aload_n hx hb dX6_countShares_11 rfl (lv_at hl 1 rfl) ?_
  refine uGet (ci := 6) (C := RX6) (T := TX6) (N := 5) (v := .int 1) B inlX6 hP 0 rfl rfl 2 rfl mfl_X6_18 rfl rfl dX6_countShares_12 ?_
  refine lv_icmp_ge (tgt := 57) hx hb dX6_countShares_15 (by decide) (fun h9 => absurd h9 (by decide)) (fun _ => ?_)
  refine lv_iconst (v := 0) hx hb dX6_countShares_18 (by decide) ?_
  refine lv_pc (q := 19) rfl ?_
  refine lv_istore_n (lv' := [(2, .int 0), (1, .int 0), (0, .ref ph0)]) hx hb dX6_countShares_19 rfl hl (by decide) rfl (fun ls hl => ?_)
  refine lv_iload_n hx hb dX6_countShares_20 rfl (lv_at hl 0 rfl) ?_
  refine lv_bipush (v := 12) hx hb dX6_countShares_21 (by decide) ?_
  refine lv_icmp_ge (tgt := 51) hx hb dX6_countShares_23 (by decide) (fun h9 => absurd h9 (by decide)) (fun _ => ?_)
  refine lv_aload_n hx hb dX6_countShares_26 rfl (lv_at hl 2 rfl) ?_
  refine uGet (ci := 6) (C := RX6) (T := TX6) (N := 5) (v := .ref ph1) B inlX6 hP 0 rfl rfl 1 rfl mfl_X6_15 rfl rfl dX6_countShares_27 ?_
  refine lv_pc (q := 30) rfl ?_
  refine lv_iload_n hx hb dX6_countShares_30 rfl (lv_at hl 0 rfl) ?_
  refine lv_dup2_11 hx hb dX6_countShares_31 rfl rfl ?_
  refine uIald (i := 0) (j := 0) B hP 2 rfl (by decide) rfl dX6_countShares_32 ?_
  refine lv_aload_n hx hb dX6_countShares_33 rfl (lv_at hl 2 rfl) ?_
  refine uGet (ci := 6) (C := RX6) (T := TX6) (N := 5) (v := .ref ph2) B inlX6 hP 0 rfl rfl 0 rfl mfl_X6_11 rfl rfl dX6_countShares_34 ?_
  refine lv_iload_n hx hb dX6_countShares_37 rfl (lv_at hl 1 rfl) ?_
  refine lv_pc (q := 38) rfl ?_
  refine uIald (i := 0) (j := 0) B hP 1 rfl (by decide) rfl dX6_countShares_38 ?_
  refine lv_iload_n hx hb dX6_countShares_39 rfl (lv_at hl 0 rfl) ?_
  refine lv_ishr hx hb dX6_countShares_40 ?_
  refine lv_iconst (v := 1) hx hb dX6_countShares_41 (by decide) ?_
  refine lv_iand hx hb dX6_countShares_42 ?_
  refine lv_iadd hx hb dX6_countShares_43 ?_
  refine lv_pc (q := 44) rfl ?_
  refine uIast (i := 0) (j := 0) (ws' := [(ph0, .inr (6, [.ref ph2, .ref ph1, .int 1, .int 0, .int 1])), (ph2, .inl (K 0, 252, .inl pf4)), (ph1, .inl (K 0, 12, .inl (upd u2 0 ((u2 0) + (((pf4 0) >>> (0 &&& 31)) &&& 1)))))]) B hP hD hS 2 rfl (by decide) rfl rfl dX6_countShares_44 (fun H locs hP hD hS => ?_)
  refine lv_iinc (v := 1) (lv' := [(2, .int 1), (1, .int 0), (0, .ref ph0)]) hx hb dX6_countShares_45 hl (k := 0) rfl (by decide) (by decide) rfl (fun ls hl => ?_)
  refine lv_goto (tgt := 20) hx hb dX6_countShares_48 (by decide) ?_
  refine lv_iload_n hx hb dX6_countShares_20 rfl (lv_at hl 0 rfl) ?_
  refine lv_bipush (v := 12) hx hb dX6_countShares_21 (by decide) ?_
  refine lv_icmp_ge (tgt := 51) hx hb dX6_countShares_23 (by decide) (fun h9 => absurd h9 (by decide)) (fun _ => ?_)
  refine lv_pc (q := 26) rfl ?_
  refine lv_aload_n hx hb dX6_countShares_26 rfl (lv_at hl 2 rfl) ?_
  refine uGet (ci := 6) (C := RX6) (T := TX6) (N := 5) (v := .ref ph1) B inlX6 hP 0 rfl rfl 1 rfl mfl_X6_15 rfl rfl dX6_countShares_27 ?_
  refine lv_iload_n hx hb dX6_countShares_30 rfl (lv_at hl 0 rfl) ?_
  refine lv_dup2_11 hx hb dX6_countShares_31 rfl rfl ?_
  refine uIald (i := 1) (j := 1) B hP 2 rfl (by decide) rfl dX6_countShares_32 ?_
  refine lv_aload_n hx hb dX6_countShares_33 rfl (lv_at hl 2 rfl) ?_
  refine lv_pc (q := 34) rfl ?_
  refine uGet (ci := 6) (C := RX6) (T := TX6) (N := 5) (v := .ref ph2) B inlX6 hP 0 rfl rfl 0 rfl mfl_X6_11 rfl rfl dX6_countShares_34 ?_
  refine lv_iload_n hx hb dX6_countShares_37 rfl (lv_at hl 1 rfl) ?_
  refine uIald (i := 0) (j := 0) B hP 1 rfl (by decide) rfl dX6_countShares_38 ?_
  refine lv_iload_n hx hb dX6_countShares_39 rfl (lv_at hl 0 rfl) ?_
  refine lv_ishr hx hb dX6_countShares_40 ?_
  refine lv_iconst (v := 1) hx hb dX6_countShares_41 (by decide) ?_
  refine lv_pc (q := 42) rfl ?_
  refine lv_iand hx hb dX6_countShares_42 ?_
  refine lv_iadd hx hb dX6_countShares_43 ?_
  refine uIast (i := 1) (j := 1) (ws' := [(ph0, .inr (6, [.ref ph2, .ref ph1, .int 1, .int 0, .int 1])), (ph2, .inl (K 0, 252, .inl pf4)), (ph1, .inl (K 0, 12, .inl (upd (upd u2 0 ((u2 0) + (((pf4 0) >>> (0 &&& 31)) &&& 1))) 1 (((upd u2 0 ((u2 0) + (((pf4 0) >>> (0 &&& 31)) &&& 1))) 1) + (((pf4 0) >>> (1 &&& 31)) &&& 1)))))]) B hP hD hS 2 rfl (by decide) rfl rfl dX6_countShares_44 (fun H locs hP hD hS => ?_)
  obtain ⟨f3, ef3⟩ : ∃ y : Nat → Int32, y = upd (upd u2 0 ((u2 0) + (((pf4 0) >>> (0 &&& 31)) &&& 1))) 1 (((upd u2 0 ((u2 0) + (((pf4 0) >>> (0 &&& 31)) &&& 1))) 1) + (((pf4 0) >>> (1 &&& 31)) &&& 1)) := ⟨_, rfl⟩
  rw [← ef3] at hP hD
  clear ef3
  refine lv_iinc (v := 2) (lv' := [(2, .int 2), (1, .int 0), (0, .ref ph0)]) hx hb dX6_countShares_45 hl (k := 0) rfl (by decide) (by decide) rfl (fun ls hl => ?_)
  refine lv_goto (tgt := 20) hx hb dX6_countShares_48 (by decide) ?_
  refine lv_iload_n hx hb dX6_countShares_20 rfl (lv_at hl 0 rfl) ?_
  refine lv_pc (q := 21) rfl ?_
  refine lv_bipush (v := 12) hx hb dX6_countShares_21 (by decide) ?_
  refine lv_icmp_ge (tgt := 51) hx hb dX6_countShares_23 (by decide) (fun h9 => absurd h9 (by decide)) (fun _ => ?_)
  refine lv_aload_n hx hb dX6_countShares_26 rfl (lv_at hl 2 rfl) ?_
  refine uGet (ci := 6) (C := RX6) (T := TX6) (N := 5) (v := .ref ph1) B inlX6 hP 0 rfl rfl 1 rfl mfl_X6_15 rfl rfl dX6_countShares_27 ?_
  refine lv_iload_n hx hb dX6_countShares_30 rfl (lv_at hl 0 rfl) ?_
  refine lv_dup2_11 hx hb dX6_countShares_31 rfl rfl ?_
  refine lv_pc (q := 32) rfl ?_
  refine uIald (i := 2) (j := 2) B hP 2 rfl (by decide) rfl dX6_countShares_32 ?_
  refine lv_aload_n hx hb dX6_countShares_33 rfl (lv_at hl 2 rfl) ?_
  refine uGet (ci := 6) (C := RX6) (T := TX6) (N := 5) (v := .ref ph2) B inlX6 hP 0 rfl rfl 0 rfl mfl_X6_11 rfl rfl dX6_countShares_34 ?_
  refine lv_iload_n hx hb dX6_countShares_37 rfl (lv_at hl 1 rfl) ?_
  refine uIald (i := 0) (j := 0) B hP 1 rfl (by decide) rfl dX6_countShares_38 ?_
  refine lv_iload_n hx hb dX6_countShares_39 rfl (lv_at hl 0 rfl) ?_
  refine lv_pc (q := 40) rfl ?_
  refine lv_ishr hx hb dX6_countShares_40 ?_
  refine lv_iconst (v := 1) hx hb dX6_countShares_41 (by decide) ?_
  refine lv_iand hx hb dX6_countShares_42 ?_
  refine lv_iadd hx hb dX6_countShares_43 ?_
  refine uIast (i := 2) (j := 2) (ws' := [(ph0, .inr (6, [.ref ph2, .ref ph1, .int 1, .int 0, .int 1])), (ph2, .inl (K 0, 252, .inl pf4)), (ph1, .inl (K 0, 12, .inl (upd f3 2 ((f3 2) + (((pf4 0) >>> (2 &&& 31)) &&& 1)))))]) B hP hD hS 2 rfl (by decide) rfl rfl dX6_countShares_44 (fun H locs hP hD hS => ?_)
  refine lv_iinc (v := 3) (lv' := [(2, .int 3), (1, .int 0), (0, .ref ph0)]) hx hb dX6_countShares_45 hl (k := 0) rfl (by decide) (by decide) rfl (fun ls hl => ?_)
  refine lv_pc (q := 48) rfl ?_
  refine lv_goto (tgt := 20) hx hb dX6_countShares_48 (by decide) ?_
  refine lv_iload_n hx hb dX6_countShares_20 rfl (lv_at hl 0 rfl) ?_
  refine lv_bipush (v := 12) hx hb dX6_countShares_21 (by decide) ?_
  refine lv_icmp_ge (tgt := 51) hx hb dX6_countShares_23 (by decide) (fun h9 => absurd h9 (by decide)) (fun _ => ?_)
  refine lv_aload_n hx hb dX6_countShares_26 rfl (lv_at hl 2 rfl) ?_
  refine uGet (ci := 6) (C := RX6) (T := TX6) (N := 5) (v := .ref ph1) B inlX6 hP 0 rfl rfl 1 rfl mfl_X6_15 rfl rfl dX6_countShares_27 ?_
  refine lv_pc (q := 30) rfl ?_
  refine lv_iload_n hx hb dX6_countShares_30 rfl (lv_at hl 0 rfl) ?_
  refine lv_dup2_11 hx hb dX6_countShares_31 rfl rfl ?_
  refine uIald (i := 3) (j := 3) B hP 2 rfl (by decide) rfl dX6_countShares_32 ?_
  refine lv_aload_n hx hb dX6_countShares_33 rfl (lv_at hl 2 rfl) ?_
  refine uGet (ci := 6) (C := RX6) (T := TX6) (N := 5) (v := .ref ph2) B inlX6 hP 0 rfl rfl 0 rfl mfl_X6_11 rfl rfl dX6_countShares_34 ?_
  refine lv_iload_n hx hb dX6_countShares_37 rfl (lv_at hl 1 rfl) ?_
  refine lv_pc (q := 38) rfl ?_
  refine uIald (i := 0) (j := 0) B hP 1 rfl (by decide) rfl dX6_countShares_38 ?_
  refine lv_iload_n hx hb dX6_countShares_39 rfl (lv_at hl 0 rfl) ?_
  refine lv_ishr hx hb dX6_countShares_40 ?_
  refine lv_iconst (v := 1) hx hb dX6_countShares_41 (by decide) ?_
  refine lv_iand hx hb dX6_countShares_42 ?_
  refine lv_iadd hx hb dX6_countShares_43 ?_
  refine lv_pc (q := 44) rfl ?_
  refine uIast (i := 3) (j := 3) (ws' := [(ph0, .inr (6, [.ref ph2, .ref ph1, .int 1, .int 0, .int 1])), (ph2, .inl (K 0, 252, .inl pf4)), (ph1, .inl (K 0, 12, .inl (upd (upd f3 2 ((f3 2) + (((pf4 0) >>> (2 &&& 31)) &&& 1))) 3 (((upd f3 2 ((f3 2) + (((pf4 0) >>> (2 &&& 31)) &&& 1))) 3) + (((pf4 0) >>> (3 &&& 31)) &&& 1)))))]) B hP hD hS 2 rfl (by decide) rfl rfl dX6_countShares_44 (fun H locs hP hD hS => ?_)
  obtain ⟨f4, ef4⟩ : ∃ y : Nat → Int32, y = upd (upd f3 2 ((f3 2) + (((pf4 0) >>> (2 &&& 31)) &&& 1))) 3 (((upd f3 2 ((f3 2) + (((pf4 0) >>> (2 &&& 31)) &&& 1))) 3) + (((pf4 0) >>> (3 &&& 31)) &&& 1)) := ⟨_, rfl⟩
  rw [← ef4] at hP hD
  clear ef4
  refine lv_iinc (v := 4) (lv' := [(2, .int 4), (1, .int 0), (0, .ref ph0)]) hx hb dX6_countShares_45 hl (k := 0) rfl (by decide) (by decide) rfl (fun ls hl => ?_)
  refine lv_goto (tgt := 20) hx hb dX6_countShares_48 (by decide) ?_
  refine lv_iload_n hx hb dX6_countShares_20 rfl (lv_at hl 0 rfl) ?_
  refine lv_bipush (v := 12) hx hb dX6_countShares_21 (by decide) ?_
  refine lv_icmp_ge (tgt := 51) hx hb dX6_countShares_23 (by decide) (fun h9 => absurd h9 (by decide)) (fun _ => ?_)
  refine lv_pc (q := 26) rfl ?_
  refine lv_aload_n hx hb dX6_countShares_26 rfl (lv_at hl 2 rfl) ?_
  refine uGet (ci := 6) (C := RX6) (T := TX6) (N := 5) (v := .ref ph1) B inlX6 hP 0 rfl rfl 1 rfl mfl_X6_15 rfl rfl dX6_countShares_27 ?_
  refine lv_iload_n hx hb dX6_countShares_30 rfl (lv_at hl 0 rfl) ?_
  refine lv_dup2_11 hx hb dX6_countShares_31 rfl rfl ?_
  refine uIald (i := 4) (j := 4) B hP 2 rfl (by decide) rfl dX6_countShares_32 ?_
  refine lv_aload_n hx hb dX6_countShares_33 rfl (lv_at hl 2 rfl) ?_
  refine lv_pc (q := 34) rfl ?_
  refine uGet (ci := 6) (C := RX6) (T := TX6) (N := 5) (v := .ref ph2) B inlX6 hP 0 rfl rfl 0 rfl mfl_X6_11 rfl rfl dX6_countShares_34 ?_
  refine lv_iload_n hx hb dX6_countShares_37 rfl (lv_at hl 1 rfl) ?_
  refine uIald (i := 0) (j := 0) B hP 1 rfl (by decide) rfl dX6_countShares_38 ?_
  refine lv_iload_n hx hb dX6_countShares_39 rfl (lv_at hl 0 rfl) ?_
  refine lv_ishr hx hb dX6_countShares_40 ?_
  refine lv_iconst (v := 1) hx hb dX6_countShares_41 (by decide) ?_
  refine lv_pc (q := 42) rfl ?_
  refine lv_iand hx hb dX6_countShares_42 ?_
  refine lv_iadd hx hb dX6_countShares_43 ?_
  refine uIast (i := 4) (j := 4) (ws' := [(ph0, .inr (6, [.ref ph2, .ref ph1, .int 1, .int 0, .int 1])), (ph2, .inl (K 0, 252, .inl pf4)), (ph1, .inl (K 0, 12, .inl (upd f4 4 ((f4 4) + (((pf4 0) >>> (4 &&& 31)) &&& 1)))))]) B hP hD hS 2 rfl (by decide) rfl rfl dX6_countShares_44 (fun H locs hP hD hS => ?_)
  refine lv_iinc (v := 5) (lv' := [(2, .int 5), (1, .int 0), (0, .ref ph0)]) hx hb dX6_countShares_45 hl (k := 0) rfl (by decide) (by decide) rfl (fun ls hl => ?_)
  refine lv_goto (tgt := 20) hx hb dX6_countShares_48 (by decide) ?_
  refine lv_iload_n hx hb dX6_countShares_20 rfl (lv_at hl 0 rfl) ?_
  refine lv_pc (q := 21) rfl ?_
  refine lv_bipush (v := 12) hx hb dX6_countShares_21 (by decide) ?_
  refine lv_icmp_ge (tgt := 51) hx hb dX6_countShares_23 (by decide) (fun h9 => absurd h9 (by decide)) (fun _ => ?_)
  refine lv_aload_n hx hb dX6_countShares_26 rfl (lv_at hl 2 rfl) ?_
  refine uGet (ci := 6) (C := RX6) (T := TX6) (N := 5) (v := .ref ph1) B inlX6 hP 0 rfl rfl 1 rfl mfl_X6_15 rfl rfl dX6_countShares_27 ?_
  refine lv_iload_n hx hb dX6_countShares_30 rfl (lv_at hl 0 rfl) ?_
  refine lv_dup2_11 hx hb dX6_countShares_31 rfl rfl ?_
  refine lv_pc (q := 32) rfl ?_
  refine uIald (i := 5) (j := 5) B hP 2 rfl (by decide) rfl dX6_countShares_32 ?_
  refine lv_aload_n hx hb dX6_countShares_33 rfl (lv_at hl 2 rfl) ?_
  refine uGet (ci := 6) (C := RX6) (T := TX6) (N := 5) (v := .ref ph2) B inlX6 hP 0 rfl rfl 0 rfl mfl_X6_11 rfl rfl dX6_countShares_34 ?_
  refine lv_iload_n hx hb dX6_countShares_37 rfl (lv_at hl 1 rfl) ?_
  refine uIald (i := 0) (j := 0) B hP 1 rfl (by decide) rfl dX6_countShares_38 ?_
  refine lv_iload_n hx hb dX6_countShares_39 rfl (lv_at hl 0 rfl) ?_
  refine lv_pc (q := 40) rfl ?_
  refine lv_ishr hx hb dX6_countShares_40 ?_
  refine lv_iconst (v := 1) hx hb dX6_countShares_41 (by decide) ?_
  refine lv_iand hx hb dX6_countShares_42 ?_
  refine lv_iadd hx hb dX6_countShares_43 ?_
  refine uIast (i := 5) (j := 5) (ws' := [(ph0, .inr (6, [.ref ph2, .ref ph1, .int 1, .int 0, .int 1])), (ph2, .inl (K 0, 252, .inl pf4)), (ph1, .inl (K 0, 12, .inl (upd (upd f4 4 ((f4 4) + (((pf4 0) >>> (4 &&& 31)) &&& 1))) 5 (((upd f4 4 ((f4 4) + (((pf4 0) >>> (4 &&& 31)) &&& 1))) 5) + (((pf4 0) >>> (5 &&& 31)) &&& 1)))))]) B hP hD hS 2 rfl (by decide) rfl rfl dX6_countShares_44 (fun H locs hP hD hS => ?_)
  obtain ⟨f5, ef5⟩ : ∃ y : Nat → Int32, y = upd (upd f4 4 ((f4 4) + (((pf4 0) >>> (4 &&& 31)) &&& 1))) 5 (((upd f4 4 ((f4 4) + (((pf4 0) >>> (4 &&& 31)) &&& 1))) 5) + (((pf4 0) >>> (5 &&& 31)) &&& 1)) := ⟨_, rfl⟩
  rw [← ef5] at hP hD
  clear ef5
  refine lv_iinc (v := 6) (lv' := [(2, .int 6), (1, .int 0), (0, .ref ph0)]) hx hb dX6_countShares_45 hl (k := 0) rfl (by decide) (by decide) rfl (fun ls hl => ?_)
  refine lv_pc (q := 48) rfl ?_
  refine lv_goto (tgt := 20) hx hb dX6_countShares_48 (by decide) ?_
  refine lv_iload_n hx hb dX6_countShares_20 rfl (lv_at hl 0 rfl) ?_
  refine lv_bipush (v := 12) hx hb dX6_countShares_21 (by decide) ?_
  refine lv_icmp_ge (tgt := 51) hx hb dX6_countShares_23 (by decide) (fun h9 => absurd h9 (by decide)) (fun _ => ?_)
  refine lv_aload_n hx hb dX6_countShares_26 rfl (lv_at hl 2 rfl) ?_
  refine uGet (ci := 6) (C := RX6) (T := TX6) (N := 5) (v := .ref ph1) B inlX6 hP 0 rfl rfl 1 rfl mfl_X6_15 rfl rfl dX6_countShares_27 ?_
  refine lv_pc (q := 30) rfl ?_
  refine lv_iload_n hx hb dX6_countShares_30 rfl (lv_at hl 0 rfl) ?_
  refine lv_dup2_11 hx hb dX6_countShares_31 rfl rfl ?_
  refine uIald (i := 6) (j := 6) B hP 2 rfl (by decide) rfl dX6_countShares_32 ?_
  refine lv_aload_n hx hb dX6_countShares_33 rfl (lv_at hl 2 rfl) ?_
  refine uGet (ci := 6) (C := RX6) (T := TX6) (N := 5) (v := .ref ph2) B inlX6 hP 0 rfl rfl 0 rfl mfl_X6_11 rfl rfl dX6_countShares_34 ?_
  refine lv_iload_n hx hb dX6_countShares_37 rfl (lv_at hl 1 rfl) ?_
  refine lv_pc (q := 38) rfl ?_
  refine uIald (i := 0) (j := 0) B hP 1 rfl (by decide) rfl dX6_countShares_38 ?_
  refine lv_iload_n hx hb dX6_countShares_39 rfl (lv_at hl 0 rfl) ?_
  refine lv_ishr hx hb dX6_countShares_40 ?_
  refine lv_iconst (v := 1) hx hb dX6_countShares_41 (by decide) ?_
  refine lv_iand hx hb dX6_countShares_42 ?_
  refine lv_iadd hx hb dX6_countShares_43 ?_
  refine lv_pc (q := 44) rfl ?_
  refine uIast (i := 6) (j := 6) (ws' := [(ph0, .inr (6, [.ref ph2, .ref ph1, .int 1, .int 0, .int 1])), (ph2, .inl (K 0, 252, .inl pf4)), (ph1, .inl (K 0, 12, .inl (upd f5 6 ((f5 6) + (((pf4 0) >>> (6 &&& 31)) &&& 1)))))]) B hP hD hS 2 rfl (by decide) rfl rfl dX6_countShares_44 (fun H locs hP hD hS => ?_)
  refine lv_iinc (v := 7) (lv' := [(2, .int 7), (1, .int 0), (0, .ref ph0)]) hx hb dX6_countShares_45 hl (k := 0) rfl (by decide) (by decide) rfl (fun ls hl => ?_)
  refine lv_goto (tgt := 20) hx hb dX6_countShares_48 (by decide) ?_
  refine lv_iload_n hx hb dX6_countShares_20 rfl (lv_at hl 0 rfl) ?_
  refine lv_bipush (v := 12) hx hb dX6_countShares_21 (by decide) ?_
  refine lv_icmp_ge (tgt := 51) hx hb dX6_countShares_23 (by decide) (fun h9 => absurd h9 (by decide)) (fun _ => ?_)
  refine lv_pc (q := 26) rfl ?_
  refine lv_aload_n hx hb dX6_countShares_26 rfl (lv_at hl 2 rfl) ?_
  refine uGet (ci := 6) (C := RX6) (T := TX6) (N := 5) (v := .ref ph1) B inlX6 hP 0 rfl rfl 1 rfl mfl_X6_15 rfl rfl dX6_countShares_27 ?_
  refine lv_iload_n hx hb dX6_countShares_30 rfl (lv_at hl 0 rfl) ?_
  refine lv_dup2_11 hx hb dX6_countShares_31 rfl rfl ?_
  refine uIald (i := 7) (j := 7) B hP 2 rfl (by decide) rfl dX6_countShares_32 ?_
  refine lv_aload_n hx hb dX6_countShares_33 rfl (lv_at hl 2 rfl) ?_
  refine lv_pc (q := 34) rfl ?_
  refine uGet (ci := 6) (C := RX6) (T := TX6) (N := 5) (v := .ref ph2) B inlX6 hP 0 rfl rfl 0 rfl mfl_X6_11 rfl rfl dX6_countShares_34 ?_
  refine lv_iload_n hx hb dX6_countShares_37 rfl (lv_at hl 1 rfl) ?_
  refine uIald (i := 0) (j := 0) B hP 1 rfl (by decide) rfl dX6_countShares_38 ?_
  refine lv_iload_n hx hb dX6_countShares_39 rfl (lv_at hl 0 rfl) ?_
  refine lv_ishr hx hb dX6_countShares_40 ?_
  refine lv_iconst (v := 1) hx hb dX6_countShares_41 (by decide) ?_
  refine lv_pc (q := 42) rfl ?_
  refine lv_iand hx hb dX6_countShares_42 ?_
  refine lv_iadd hx hb dX6_countShares_43 ?_
  refine uIast (i := 7) (j := 7) (ws' := [(ph0, .inr (6, [.ref ph2, .ref ph1, .int 1, .int 0, .int 1])), (ph2, .inl (K 0, 252, .inl pf4)), (ph1, .inl (K 0, 12, .inl (upd (upd f5 6 ((f5 6) + (((pf4 0) >>> (6 &&& 31)) &&& 1))) 7 (((upd f5 6 ((f5 6) + (((pf4 0) >>> (6 &&& 31)) &&& 1))) 7) + (((pf4 0) >>> (7 &&& 31)) &&& 1)))))]) B hP hD hS 2 rfl (by decide) rfl rfl dX6_countShares_44 (fun H locs hP hD hS => ?_)
  obtain ⟨f6, ef6⟩ : ∃ y : Nat → Int32, y = upd (upd f5 6 ((f5 6) + (((pf4 0) >>> (6 &&& 31)) &&& 1))) 7 (((upd f5 6 ((f5 6) + (((pf4 0) >>> (6 &&& 31)) &&& 1))) 7) + (((pf4 0) >>> (7 &&& 31)) &&& 1)) := ⟨_, rfl⟩
  rw [← ef6] at hP hD
  clear ef6
  refine lv_iinc (v := 8) (lv' := [(2, .int 8), (1, .int 0), (0, .ref ph0)]) hx hb dX6_countShares_45 hl (k := 0) rfl (by decide) (by decide) rfl (fun ls hl => ?_)
  refine lv_goto (tgt := 20) hx hb dX6_countShares_48 (by decide) ?_
  refine lv_iload_n hx hb dX6_countShares_20 rfl (lv_at hl 0 rfl) ?_
  refine lv_pc (q := 21) rfl ?_
  refine lv_bipush (v := 12) hx hb dX6_countShares_21 (by decide) ?_
  refine lv_icmp_ge (tgt := 51) hx hb dX6_countShares_23 (by decide) (fun h9 => absurd h9 (by decide)) (fun _ => ?_)
  refine lv_aload_n hx hb dX6_countShares_26 rfl (lv_at hl 2 rfl) ?_
  refine uGet (ci := 6) (C := RX6) (T := TX6) (N := 5) (v := .ref ph1) B inlX6 hP 0 rfl rfl 1 rfl mfl_X6_15 rfl rfl dX6_countShares_27 ?_
  refine lv_iload_n hx hb dX6_countShares_30 rfl (lv_at hl 0 rfl) ?_
  refine lv_dup2_11 hx hb dX6_countShares_31 rfl rfl ?_
  refine lv_pc (q := 32) rfl ?_
  refine uIald (i := 8) (j := 8) B hP 2 rfl (by decide) rfl dX6_countShares_32 ?_
  refine lv_aload_n hx hb dX6_countShares_33 rfl (lv_at hl 2 rfl) ?_
  refine uGet (ci := 6) (C := RX6) (T := TX6) (N := 5) (v := .ref ph2) B inlX6 hP 0 rfl rfl 0 rfl mfl_X6_11 rfl rfl dX6_countShares_34 ?_
  refine lv_iload_n hx hb dX6_countShares_37 rfl (lv_at hl 1 rfl) ?_
  refine uIald (i := 0) (j := 0) B hP 1 rfl (by decide) rfl dX6_countShares_38 ?_
  refine lv_iload_n hx hb dX6_countShares_39 rfl (lv_at hl 0 rfl) ?_
  refine lv_pc (q := 40) rfl ?_
  refine lv_ishr hx hb dX6_countShares_40 ?_
  refine lv_iconst (v := 1) hx hb dX6_countShares_41 (by decide) ?_
  refine lv_iand hx hb dX6_countShares_42 ?_
  refine lv_iadd hx hb dX6_countShares_43 ?_
  refine uIast (i := 8) (j := 8) (ws' := [(ph0, .inr (6, [.ref ph2, .ref ph1, .int 1, .int 0, .int 1])), (ph2, .inl (K 0, 252, .inl pf4)), (ph1, .inl (K 0, 12, .inl (upd f6 8 ((f6 8) + (((pf4 0) >>> (8 &&& 31)) &&& 1)))))]) B hP hD hS 2 rfl (by decide) rfl rfl dX6_countShares_44 (fun H locs hP hD hS => ?_)
  refine lv_iinc (v := 9) (lv' := [(2, .int 9), (1, .int 0), (0, .ref ph0)]) hx hb dX6_countShares_45 hl (k := 0) rfl (by decide) (by decide) rfl (fun ls hl => ?_)
  refine lv_pc (q := 48) rfl ?_
  refine lv_goto (tgt := 20) hx hb dX6_countShares_48 (by decide) ?_
  refine lv_iload_n hx hb dX6_countShares_20 rfl (lv_at hl 0 rfl) ?_
  refine lv_bipush (v := 12) hx hb dX6_countShares_21 (by decide) ?_
  refine lv_icmp_ge (tgt := 51) hx hb dX6_countShares_23 (by decide) (fun h9 => absurd h9 (by decide)) (fun _ => ?_)
  refine lv_aload_n hx hb dX6_countShares_26 rfl (lv_at hl 2 rfl) ?_
  refine uGet (ci := 6) (C := RX6) (T := TX6) (N := 5) (v := .ref ph1) B inlX6 hP 0 rfl rfl 1 rfl mfl_X6_15 rfl rfl dX6_countShares_27 ?_
  refine lv_pc (q := 30) rfl ?_
  refine lv_iload_n hx hb dX6_countShares_30 rfl (lv_at hl 0 rfl) ?_
  refine lv_dup2_11 hx hb dX6_countShares_31 rfl rfl ?_
  refine uIald (i := 9) (j := 9) B hP 2 rfl (by decide) rfl dX6_countShares_32 ?_
  refine lv_aload_n hx hb dX6_countShares_33 rfl (lv_at hl 2 rfl) ?_
  refine uGet (ci := 6) (C := RX6) (T := TX6) (N := 5) (v := .ref ph2) B inlX6 hP 0 rfl rfl 0 rfl mfl_X6_11 rfl rfl dX6_countShares_34 ?_
  refine lv_iload_n hx hb dX6_countShares_37 rfl (lv_at hl 1 rfl) ?_
  refine lv_pc (q := 38) rfl ?_
  refine uIald (i := 0) (j := 0) B hP 1 rfl (by decide) rfl dX6_countShares_38 ?_
  refine lv_iload_n hx hb dX6_countShares_39 rfl (lv_at hl 0 rfl) ?_
  refine lv_ishr hx hb dX6_countShares_40 ?_
  refine lv_iconst (v := 1) hx hb dX6_countShares_41 (by decide) ?_
  refine lv_iand hx hb dX6_countShares_42 ?_
  refine lv_iadd hx hb dX6_countShares_43 ?_
  refine lv_pc (q := 44) rfl ?_
  refine uIast (i := 9) (j := 9) (ws' := [(ph0, .inr (6, [.ref ph2, .ref ph1, .int 1, .int 0, .int 1])), (ph2, .inl (K 0, 252, .inl pf4)), (ph1, .inl (K 0, 12, .inl (upd (upd f6 8 ((f6 8) + (((pf4 0) >>> (8 &&& 31)) &&& 1))) 9 (((upd f6 8 ((f6 8) + (((pf4 0) >>> (8 &&& 31)) &&& 1))) 9) + (((pf4 0) >>> (9 &&& 31)) &&& 1)))))]) B hP hD hS 2 rfl (by decide) rfl rfl dX6_countShares_44 (fun H locs hP hD hS => ?_)
  obtain ⟨f7, ef7⟩ : ∃ y : Nat → Int32, y = upd (upd f6 8 ((f6 8) + (((pf4 0) >>> (8 &&& 31)) &&& 1))) 9 (((upd f6 8 ((f6 8) + (((pf4 0) >>> (8 &&& 31)) &&& 1))) 9) + (((pf4 0) >>> (9 &&& 31)) &&& 1)) := ⟨_, rfl⟩
  rw [← ef7] at hP hD
  clear ef7
  refine lv_iinc (v := 10) (lv' := [(2, .int 10), (1, .int 0), (0, .ref ph0)]) hx hb dX6_countShares_45 hl (k := 0) rfl (by decide) (by decide) rfl (fun ls hl => ?_)
  refine lv_goto (tgt := 20) hx hb dX6_countShares_48 (by decide) ?_
  refine lv_iload_n hx hb dX6_countShares_20 rfl (lv_at hl 0 rfl) ?_
  refine lv_bipush (v := 12) hx hb dX6_countShares_21 (by decide) ?_
  refine lv_icmp_ge (tgt := 51) hx hb dX6_countShares_23 (by decide) (fun h9 => absurd h9 (by decide)) (fun _ => ?_)
  refine lv_pc (q := 26) rfl ?_
  refine lv_aload_n hx hb dX6_countShares_26 rfl (lv_at hl 2 rfl) ?_
  refine uGet (ci := 6) (C := RX6) (T := TX6) (N := 5) (v := .ref ph1) B inlX6 hP 0 rfl rfl 1 rfl mfl_X6_15 rfl rfl dX6_countShares_27 ?_
  refine lv_iload_n hx hb dX6_countShares_30 rfl (lv_at hl 0 rfl) ?_
  refine lv_dup2_11 hx hb dX6_countShares_31 rfl rfl ?_
  refine uIald (i := 10) (j := 10) B hP 2 rfl (by decide) rfl dX6_countShares_32 ?_
  refine lv_aload_n hx hb dX6_countShares_33 rfl (lv_at hl 2 rfl) ?_
  refine lv_pc (q := 34) rfl ?_
  refine uGet (ci := 6) (C := RX6) (T := TX6) (N := 5) (v := .ref ph2) B inlX6 hP 0 rfl rfl 0 rfl mfl_X6_11 rfl rfl dX6_countShares_34 ?_
  refine lv_iload_n hx hb dX6_countShares_37 rfl (lv_at hl 1 rfl) ?_
  refine uIald (i := 0) (j := 0) B hP 1 rfl (by decide) rfl dX6_countShares_38 ?_
  refine lv_iload_n hx hb dX6_countShares_39 rfl (lv_at hl 0 rfl) ?_
  refine lv_ishr hx hb dX6_countShares_40 ?_
  refine lv_iconst (v := 1) hx hb dX6_countShares_41 (by decide) ?_
  refine lv_pc (q := 42) rfl ?_
  refine lv_iand hx hb dX6_countShares_42 ?_
  refine lv_iadd hx hb dX6_countShares_43 ?_
  refine uIast (i := 10) (j := 10) (ws' := [(ph0, .inr (6, [.ref ph2, .ref ph1, .int 1, .int 0, .int 1])), (ph2, .inl (K 0, 252, .inl pf4)), (ph1, .inl (K 0, 12, .inl (upd f7 10 ((f7 10) + (((pf4 0) >>> (10 &&& 31)) &&& 1)))))]) B hP hD hS 2 rfl (by decide) rfl rfl dX6_countShares_44 (fun H locs hP hD hS => ?_)
  refine lv_iinc (v := 11) (lv' := [(2, .int 11), (1, .int 0), (0, .ref ph0)]) hx hb dX6_countShares_45 hl (k := 0) rfl (by decide) (by decide) rfl (fun ls hl => ?_)
  refine lv_goto (tgt := 20) hx hb dX6_countShares_48 (by decide) ?_
  refine lv_iload_n hx hb dX6_countShares_20 rfl (lv_at hl 0 rfl) ?_
  refine lv_pc (q := 21) rfl ?_
  refine lv_bipush (v := 12) hx hb dX6_countShares_21 (by decide) ?_
  refine lv_icmp_ge (tgt := 51) hx hb dX6_countShares_23 (by decide) (fun h9 => absurd h9 (by decide)) (fun _ => ?_)
  refine lv_aload_n hx hb dX6_countShares_26 rfl (lv_at hl 2 rfl) ?_
  refine uGet (ci := 6) (C := RX6) (T := TX6) (N := 5) (v := .ref ph1) B inlX6 hP 0 rfl rfl 1 rfl mfl_X6_15 rfl rfl dX6_countShares_27 ?_
  refine lv_iload_n hx hb dX6_countShares_30 rfl (lv_at hl 0 rfl) ?_
  refine lv_dup2_11 hx hb dX6_countShares_31 rfl rfl ?_
  refine lv_pc (q := 32) rfl ?_
  refine uIald (i := 11) (j := 11) B hP 2 rfl (by decide) rfl dX6_countShares_32 ?_
  refine lv_aload_n hx hb dX6_countShares_33 rfl (lv_at hl 2 rfl) ?_
  refine uGet (ci := 6) (C := RX6) (T := TX6) (N := 5) (v := .ref ph2) B inlX6 hP 0 rfl rfl 0 rfl mfl_X6_11 rfl rfl dX6_countShares_34 ?_
  refine lv_iload_n hx hb dX6_countShares_37 rfl (lv_at hl 1 rfl) ?_
  refine uIald (i := 0) (j := 0) B hP 1 rfl (by decide) rfl dX6_countShares_38 ?_
  refine lv_iload_n hx hb dX6_countShares_39 rfl (lv_at hl 0 rfl) ?_
  refine lv_pc (q := 40) rfl ?_
  refine lv_ishr hx hb dX6_countShares_40 ?_
  refine lv_iconst (v := 1) hx hb dX6_countShares_41 (by decide) ?_
  refine lv_iand hx hb dX6_countShares_42 ?_
  refine lv_iadd hx hb dX6_countShares_43 ?_
  refine uIast (i := 11) (j := 11) (ws' := [(ph0, .inr (6, [.ref ph2, .ref ph1, .int 1, .int 0, .int 1])), (ph2, .inl (K 0, 252, .inl pf4)), (ph1, .inl (K 0, 12, .inl (upd (upd f7 10 ((f7 10) + (((pf4 0) >>> (10 &&& 31)) &&& 1))) 11 (((upd f7 10 ((f7 10) + (((pf4 0) >>> (10 &&& 31)) &&& 1))) 11) + (((pf4 0) >>> (11 &&& 31)) &&& 1)))))]) B hP hD hS 2 rfl (by decide) rfl rfl dX6_countShares_44 (fun H locs hP hD hS => ?_)
  obtain ⟨f8, ef8⟩ : ∃ y : Nat → Int32, y = upd (upd f7 10 ((f7 10) + (((pf4 0) >>> (10 &&& 31)) &&& 1))) 11 (((upd f7 10 ((f7 10) + (((pf4 0) >>> (10 &&& 31)) &&& 1))) 11) + (((pf4 0) >>> (11 &&& 31)) &&& 1)) := ⟨_, rfl⟩
  rw [← ef8] at hP hD
  clear ef8
  refine lv_iinc (v := 12) (lv' := [(2, .int 12), (1, .int 0), (0, .ref ph0)]) hx hb dX6_countShares_45 hl (k := 0) rfl (by decide) (by decide) rfl (fun ls hl => ?_)
  refine lv_pc (q := 48) rfl ?_
  refine lv_goto (tgt := 20) hx hb dX6_countShares_48 (by decide) ?_
  refine lv_iload_n hx hb dX6_countShares_20 rfl (lv_at hl 0 rfl) ?_
  refine lv_bipush (v := 12) hx hb dX6_countShares_21 (by decide) ?_
  refine lv_icmp_ge (tgt := 51) hx hb dX6_countShares_23 (by decide) (fun _ => ?_) (fun h9 => absurd (by decide) h9)
  refine lv_iinc (v := 1) (lv' := [(1, .int 1), (2, .int 12), (0, .ref ph0)]) hx hb dX6_countShares_51 hl (k := 1) rfl (by decide) (by decide) rfl (fun ls hl => ?_)
  refine lv_goto (tgt := 10) hx hb dX6_countShares_54 (by decide) ?_
  refine lv_pc (q := 10) rfl ?_
  refine lv_iload_n hx hb dX6_countShares_10 rfl (lv_at hl 0 rfl) ?_
  refine lv_aload_n hx hb dX6_countShares_11 rfl (lv_at hl 2 rfl) ?_
  refine uGet (ci := 6) (C := RX6) (T := TX6) (N := 5) (v := .int 1) B inlX6 hP 0 rfl rfl 2 rfl mfl_X6_18 rfl rfl dX6_countShares_12 ?_
  refine lv_icmp_ge (tgt := 57) hx hb dX6_countShares_15 (by decide) (fun _ => ?_) (fun h9 => absurd (by decide) h9)
  exact uRv f8 B trivial (uSub hP [0, 2, 1] rfl) (hD.sub [0, 2, 1] rfl rfl) hS dX6_countShares_57
def qkX6_find_116 (ph0 : Nat) (ph1 : Nat) (ph2 : Nat) (ph3 : Nat) (pg4 : Nat) (pg5 : Nat) (pg6 : Nat) (pg7 : Nat) (pg8 : Nat) (pf9 : Nat → Int32) (pf10 : Nat → Int32) : Int32 → ((Nat → Int32) × (Nat → Int32)) → Prop := (fun (r : Int32) (u : (Nat → Int32) × (Nat → Int32)) => r = 0)
def vkX6_find_116 (K : Nat → ClassId) (ph0 : Nat) (ph1 : Nat) (ph2 : Nat) (ph3 : Nat) (pg4 : Nat) (pg5 : Nat) (pg6 : Nat) (pg7 : Nat) (pg8 : Nat) (pf9 : Nat → Int32) (pf10 : Nat → Int32) : ((Nat → Int32) × (Nat → Int32)) → va_W := (fun (u : (Nat → Int32) × (Nat → Int32)) => [(ph0, .inr (6, [.ref ph2, .ref ph3, .int 1, .int 0, .int 1])), (ph1, .inr (1, [.ref pg4, .ref pg5, .ref pg6, .ref pg7, .ref pg8, .int 0, .int 0])), (ph2, .inl (K 0, 252, .inl (u.1))), (ph3, .inl (K 0, 12, .inl (u.2)))])
set_option maxHeartbeats 4000000 in
set_option maxRecDepth 100000 in
theorem kX6_find_116 (l : Launch) (D : va_G) (K : Nat → ClassId) (sz : Nat) (ph0 : Nat) (ph1 : Nat) (ph2 : Nat) (ph3 : Nat) (pg4 : Nat) (pg5 : Nat) (pg6 : Nat) (pg7 : Nat) (pg8 : Nat) (pf9 : Nat → Int32) (pf10 : Nat → Int32) : uMi l yX6_find cX6_find 2 (some .int) { frames := 3, cells := 0, slots := 0, locals := 74 } [.ref ph0, .ref ph1] D K [(ph0, .inr (6, [.ref ph2, .ref ph3, .int 0, .int (-1), .int 0])), (ph1, .inr (1, [.ref pg4, .ref pg5, .ref pg6, .ref pg7, .ref pg8, .int 0, .int 0])), (ph2, .inl (K 0, 252, .inl pf9)), (ph3, .inl (K 0, 12, .inl pf10))] sz (qkX6_find_116 ph0 ph1 ph2 ph3 pg4 pg5 pg6 pg7 pg8 pf9 pf10) (vkX6_find_116 K ph0 ph1 ph2 ph3 pg4 pg5 pg6 pg7 pg8 pf9 pf10) := by
  refine uMet (Qc := uQi D (qkX6_find_116 ph0 ph1 ph2 ph3 pg4 pg5 pg6 pg7 pg8 pf9 pf10) (vkX6_find_116 K ph0 ph1 ph2 ph3 pg4 pg5 pg6 pg7 pg8 pf9 pf10)) (ret := (some .int)) (by decide) (Nat.le_of_ble_eq_true rfl) ?_
  intro p e s m below meth c A ls hAe hsz B hP hD hS hl
  have hx := B.1
  have hb := B.2.1
  have hl : lv_has ls 2 [(0, .ref ph0), (1, .ref ph1)] := hl
  refine lv_aload_n hx hb dX6_find_0 rfl (lv_at hl 0 rfl) ?_
  refine uVv (As := []) (rest := []) (wr := [(ph1, .inr (1, [.ref pg4, .ref pg5, .ref pg6, .ref pg7, .ref pg8, .int 0, .int 0])), (ph2, .inl (K 0, 252, .inl pf9)), (ph3, .inl (K 0, 12, .inl pf10))]) [(ph0, .inr (6, [.ref ph2, .ref ph3, .int 0, .int (-1), .int 0]))] B hl.1 hP hD hS [0] [1, 2, 3] rfl rfl rfl (kX6_clear_28 l D K _ ph0 ph2 ph3) wd_X6_clear mml_X6_29 rfl rfl rfl rfl ⟨Nat.le_of_ble_eq_true rfl, Nat.le_of_ble_eq_true rfl⟩ (Nat.le_of_ble_eq_true rfl) ⟨Nat.le_of_ble_eq_true rfl, Nat.le_of_ble_eq_true rfl⟩ dX6_find_1 (fun u H locs hw hP hD hS => ?_)
  try dsimp only at hw
  have hP : va_P D vwCl [(ph1, .inr (1, [.ref pg4, .ref pg5, .ref pg6, .ref pg7, .ref pg8, .int 0, .int 0])), (ph2, .inl (K 0, 252, .inl pf9)), (ph3, .inl (K 0, 12, .inl pf10)), (ph0, .inr (6, [.ref ph2, .ref ph3, .int 0, .int (-1), .int 0]))] H := hP
  have hD : va_D A [(ph1, .inr (1, [.ref pg4, .ref pg5, .ref pg6, .ref pg7, .ref pg8, .int 0, .int 0])), (ph2, .inl (K 0, 252, .inl pf9)), (ph3, .inl (K 0, 12, .inl pf10)), (ph0, .inr (6, [.ref ph2, .ref ph3, .int 0, .int (-1), .int 0]))] := hD
  refine lv_aload_n hx hb dX6_find_4 rfl (lv_at hl 1 rfl) ?_
  refine lv_aload_n hx hb dX6_find_5 rfl (lv_at hl 1 rfl) ?_
  refine uGet (ci := 1) (C := RX1) (T := TX1) (N := 7) (v := .int 0) B inlX1 hP 0 rfl rfl 6 rfl mfl_X6_32 rfl rfl dX6_find_6 ?_
  refine lv_pc (q := 9) rfl ?_
  refine uVi (As := [.int 0]) (rest := []) (wr := [(ph2, .inl (K 0, 252, .inl pf9)), (ph3, .inl (K 0, 12, .inl pf10)), (ph0, .inr (6, [.ref ph2, .ref ph3, .int 0, .int (-1), .int 0]))]) [(ph1, .inr (1, [.ref pg4, .ref pg5, .ref pg6, .ref pg7, .ref pg8, .int 0, .int 0]))] B hl.1 hP hD hS [0] [1, 2, 3] rfl rfl rfl (kX1_isOneWith_111 l D K _ ph1 pg4 pg5 pg6 pg7 pg8) wd_X1_isOneWith mml_X6_37 rfl rfl rfl rfl ⟨Nat.le_of_ble_eq_true rfl, Nat.le_of_ble_eq_true rfl⟩ (Nat.le_of_ble_eq_true rfl) ⟨Nat.le_of_ble_eq_true rfl, Nat.le_of_ble_eq_true rfl⟩ dX6_find_9 (fun r2 u H locs hw hP hD hS => ?_)
  try dsimp only at hw
  rcases hw with rfl
  have hP : va_P D vwCl [(ph2, .inl (K 0, 252, .inl pf9)), (ph3, .inl (K 0, 12, .inl pf10)), (ph0, .inr (6, [.ref ph2, .ref ph3, .int 0, .int (-1), .int 0])), (ph1, .inr (1, [.ref pg4, .ref pg5, .ref pg6, .ref pg7, .ref pg8, .int 0, .int 0]))] H := hP
  have hD : va_D A [(ph2, .inl (K 0, 252, .inl pf9)), (ph3, .inl (K 0, 12, .inl pf10)), (ph0, .inr (6, [.ref ph2, .ref ph3, .int 0, .int (-1), .int 0])), (ph1, .inr (1, [.ref pg4, .ref pg5, .ref pg6, .ref pg7, .ref pg8, .int 0, .int 0]))] := hD
  refine lv_if_ne (tgt := 17) hx hb dX6_find_12 (by decide) (fun _ => ?_) (fun h9 => absurd h9 (by decide))
  refine lv_aload_n hx hb dX6_find_17 rfl (lv_at hl 0 rfl) ?_
  refine lv_iconst (v := 1) hx hb dX6_find_18 (by decide) ?_
  refine uPut (ci := 6) (C := RX6) (T := TX6) (N := 5) (ws' := [(ph2, .inl (K 0, 252, .inl pf9)), (ph3, .inl (K 0, 12, .inl pf10)), (ph0, .inr (6, [.ref ph2, .ref ph3, .int 0, .int (-1), .int 1])), (ph1, .inr (1, [.ref pg4, .ref pg5, .ref pg6, .ref pg7, .ref pg8, .int 0, .int 0]))]) B inlX6 tyX6_ok nmX6 hP hD hS 2 rfl rfl 4 rfl mfl_X6_25 rfl rfl rfl rfl rfl rfl dX6_find_19 (fun H locs hP hD hS => ?_)
  refine lv_aload_n hx hb dX6_find_22 rfl (lv_at hl 0 rfl) ?_
  refine lv_pc (q := 23) rfl ?_
  refine lv_aload_n hx hb dX6_find_23 rfl (lv_at hl 1 rfl) ?_
  refine uVv (As := [.ref ph1]) (rest := []) (wr := [(ph3, .inl (K 0, 12, .inl pf10))]) [(ph0, .inr (6, [.ref ph2, .ref ph3, .int 0, .int (-1), .int 1])), (ph1, .inr (1, [.ref pg4, .ref pg5, .ref pg6, .ref pg7, .ref pg8, .int 0, .int 0])), (ph2, .inl (K 0, 252, .inl pf9))] B hl.1 hP hD hS [2, 3, 0] [1] rfl rfl rfl (kX6_gather_114 l D K _ ph0 ph1 ph2 ph3 pg4 pg5 pg6 pg7 pg8 pf9) wd_X6_gather mml_X6_41 rfl rfl rfl rfl ⟨Nat.le_of_ble_eq_true rfl, Nat.le_of_ble_eq_true rfl⟩ (Nat.le_of_ble_eq_true rfl) ⟨Nat.le_of_ble_eq_true rfl, Nat.le_of_ble_eq_true rfl⟩ dX6_find_24 (fun u H locs hw hP hD hS => ?_)
  obtain ⟨u4, e9⟩ : ∃ y, y = u := ⟨_, rfl⟩
  subst e9
  try dsimp only at hw
  have hP : va_P D vwCl [(ph3, .inl (K 0, 12, .inl pf10)), (ph0, .inr (6, [.ref ph2, .ref ph3, .int 1, .int 0, .int 1])), (ph1, .inr (1, [.ref pg4, .ref pg5, .ref pg6, .ref pg7, .ref pg8, .int 0, .int 0])), (ph2, .inl (K 0, 252, .inl u4))] H := hP
  have hD : va_D A [(ph3, .inl (K 0, 12, .inl pf10)), (ph0, .inr (6, [.ref ph2, .ref ph3, .int 1, .int 0, .int 1])), (ph1, .inr (1, [.ref pg4, .ref pg5, .ref pg6, .ref pg7, .ref pg8, .int 0, .int 0])), (ph2, .inl (K 0, 252, .inl u4))] := hD
  refine lv_aload_n hx hb dX6_find_27 rfl (lv_at hl 0 rfl) ?_
  refine uVv (As := []) (rest := []) (wr := [(ph1, .inr (1, [.ref pg4, .ref pg5, .ref pg6, .ref pg7, .ref pg8, .int 0, .int 0]))]) [(ph0, .inr (6, [.ref ph2, .ref ph3, .int 1, .int 0, .int 1])), (ph3, .inl (K 0, 12, .inl pf10)), (ph2, .inl (K 0, 252, .inl u4))] B hl.1 hP hD hS [1, 0, 3] [2] rfl rfl rfl (kX6_countShares_115 l D K _ ph0 ph3 ph2 pf10 u4) wd_X6_countShares mml_X6_45 rfl rfl rfl rfl ⟨Nat.le_of_ble_eq_true rfl, Nat.le_of_ble_eq_true rfl⟩ (Nat.le_of_ble_eq_true rfl) ⟨Nat.le_of_ble_eq_true rfl, Nat.le_of_ble_eq_true rfl⟩ dX6_find_28 (fun u H locs hw hP hD hS => ?_)
  obtain ⟨u6, e9⟩ : ∃ y, y = u := ⟨_, rfl⟩
  subst e9
  try dsimp only at hw
  have hP : va_P D vwCl [(ph1, .inr (1, [.ref pg4, .ref pg5, .ref pg6, .ref pg7, .ref pg8, .int 0, .int 0])), (ph0, .inr (6, [.ref ph2, .ref ph3, .int 1, .int 0, .int 1])), (ph3, .inl (K 0, 12, .inl u6)), (ph2, .inl (K 0, 252, .inl u4))] H := hP
  have hD : va_D A [(ph1, .inr (1, [.ref pg4, .ref pg5, .ref pg6, .ref pg7, .ref pg8, .int 0, .int 0])), (ph0, .inr (6, [.ref ph2, .ref ph3, .int 1, .int 0, .int 1])), (ph3, .inl (K 0, 12, .inl u6)), (ph2, .inl (K 0, 252, .inl u4))] := hD
  refine lv_aload_n hx hb dX6_find_31 rfl (lv_at hl 0 rfl) ?_
  refine uGet (ci := 6) (C := RX6) (T := TX6) (N := 5) (v := .int 0) B inlX6 hP 1 rfl rfl 3 rfl mfl_X6_22 rfl rfl dX6_find_32 ?_
  refine lv_pc (q := 35) rfl ?_
  exact uRi (u4, u6) B rfl (uSub hP [1, 0, 3, 2] rfl) (hD.sub [1, 0, 3, 2] rfl rfl) hS dX6_find_35
def qkX11_join_117 (ph0 : Nat) (ph1 : Nat) (ph2 : Nat) (ph3 : Nat) (ph4 : Nat) (ph5 : Nat) (ph6 : Nat) (ph7 : Nat) (ph8 : Nat) (ph9 : Nat) (ph10 : Nat) (pg11 : Nat) (pg12 : Nat) (pg13 : Nat) (pg14 : Nat) (pg15 : Nat) (pg16 : Nat) (pg17 : Nat) (pg18 : Nat) (pg19 : Nat) (pg20 : Nat) (pg21 : Nat) (pf22 : Nat → Int32) (pf23 : Nat → Int32) (pg24 : Nat) (pg25 : Nat) (pg26 : Nat) (pg27 : Nat) (pg28 : Nat) (pg29 : Nat) (pg30 : Nat) (pg31 : Nat) (pf32 : Nat → Int32) (pf33 : Nat → Int32) (pf34 : Nat → Int32) (pf35 : Nat → Int32) (px36 : Int32) (px37 : Int32) (px38 : Int32) (px39 : Int32) : Int32 → (Unit) → Prop := (fun (r : Int32) (u : Unit) => (r = (-1) ∧ (((((px36 < 0) ∨ (¬ px36 < 0 ∧ 12 ≤ px36) ∨ (¬ px36 < 0 ∧ ¬ 12 ≤ px36 ∧ px37 < 0) ∨ (¬ px36 < 0 ∧ ¬ 12 ≤ px36 ∧ ¬ px37 < 0 ∧ 2 ≤ px37))) ∨ (¬ px36 < 0 ∧ ¬ 12 ≤ px36 ∧ ¬ px37 < 0 ∧ ¬ 2 ≤ px37 ∧ ((px38 < 0) ∨ (¬ px38 < 0 ∧ 500 < px38))) ∨ (¬ px36 < 0 ∧ ¬ 12 ≤ px36 ∧ ¬ px37 < 0 ∧ ¬ 2 ≤ px37 ∧ ¬ px38 < 0 ∧ ¬ 500 < px38 ∧ ¬ px39 = 1 ∧ ¬ px39 = 2)))) ∨ (r = 0 ∧ ((((¬ px36 < 0 ∧ ¬ 12 ≤ px36 ∧ ¬ px37 < 0 ∧ ¬ 2 ≤ px37 ∧ ¬ px38 < 0 ∧ ¬ 500 < px38 ∧ px39 = 1) ∨ (¬ px36 < 0 ∧ ¬ 12 ≤ px36 ∧ ¬ px37 < 0 ∧ ¬ 2 ≤ px37 ∧ ¬ px38 < 0 ∧ ¬ 500 < px38 ∧ ¬ px39 = 1 ∧ px39 = 2))) ∨ (((¬ px36 < 0 ∧ ¬ 12 ≤ px36 ∧ ¬ px37 < 0 ∧ ¬ 2 ≤ px37 ∧ ¬ px38 < 0 ∧ ¬ 500 < px38 ∧ px39 = 1) ∨ (¬ px36 < 0 ∧ ¬ 12 ≤ px36 ∧ ¬ px37 < 0 ∧ ¬ 2 ≤ px37 ∧ ¬ px38 < 0 ∧ ¬ 500 < px38 ∧ ¬ px39 = 1 ∧ px39 = 2))))))
def vkX11_join_117 (K : Nat → ClassId) (ph0 : Nat) (ph1 : Nat) (ph2 : Nat) (ph3 : Nat) (ph4 : Nat) (ph5 : Nat) (ph6 : Nat) (ph7 : Nat) (ph8 : Nat) (ph9 : Nat) (ph10 : Nat) (pg11 : Nat) (pg12 : Nat) (pg13 : Nat) (pg14 : Nat) (pg15 : Nat) (pg16 : Nat) (pg17 : Nat) (pg18 : Nat) (pg19 : Nat) (pg20 : Nat) (pg21 : Nat) (pf22 : Nat → Int32) (pf23 : Nat → Int32) (pg24 : Nat) (pg25 : Nat) (pg26 : Nat) (pg27 : Nat) (pg28 : Nat) (pg29 : Nat) (pg30 : Nat) (pg31 : Nat) (pf32 : Nat → Int32) (pf33 : Nat → Int32) (pf34 : Nat → Int32) (pf35 : Nat → Int32) (px36 : Int32) (px37 : Int32) (px38 : Int32) (px39 : Int32) : (Unit) → va_W := (fun (u : Unit) => [])
set_option maxHeartbeats 4000000 in
set_option maxRecDepth 100000 in
theorem kX11_join_117 (l : Launch) (D : va_G) (K : Nat → ClassId) (sz : Nat) (ph0 : Nat) (ph1 : Nat) (ph2 : Nat) (ph3 : Nat) (ph4 : Nat) (ph5 : Nat) (ph6 : Nat) (ph7 : Nat) (ph8 : Nat) (ph9 : Nat) (ph10 : Nat) (pg11 : Nat) (pg12 : Nat) (pg13 : Nat) (pg14 : Nat) (pg15 : Nat) (pg16 : Nat) (pg17 : Nat) (pg18 : Nat) (pg19 : Nat) (pg20 : Nat) (pg21 : Nat) (pf22 : Nat → Int32) (pf23 : Nat → Int32) (pg24 : Nat) (pg25 : Nat) (pg26 : Nat) (pg27 : Nat) (pg28 : Nat) (pg29 : Nat) (pg30 : Nat) (pg31 : Nat) (pf32 : Nat → Int32) (pf33 : Nat → Int32) (pf34 : Nat → Int32) (pf35 : Nat → Int32) (px36 : Int32) (px37 : Int32) (px38 : Int32) (px39 : Int32) : uMi l yX11_join cX11_join 5 (some .int) { frames := 6, cells := 0, slots := 0, locals := 134 } [.ref ph0, .int px36, .int px37, .int px38, .int px39] D K [(ph0, .inr (11, [.ref pg11, .ref ph5, .ref pg12, .ref ph2, .ref ph1, .ref ph8, .ref pg13, .ref pg14, .ref pg15, .ref pg16, .ref pg17])), (ph1, .inr (1, [.ref ph5, .ref ph2, .ref pg12, .ref ph6, .ref ph7, .int 0, .int 0])), (ph2, .inr (3, [.ref pg18, .ref pg19, .ref pg20, .ref pg21, .ref ph3, .ref ph4, .int 0, .int (-1), .int 1, .int 0])), (ph3, .inl (K 0, 24, .inl pf22)), (ph4, .inl (K 0, 24, .inl pf23)), (ph5, .inr (4, [.ref pg11, .ref pg24, .ref pg25, .ref pg26, .ref pg27, .ref pg28, .ref pg29, .ref pg30, .ref pg31, .int 0])), (ph6, .inl (K 0, 12, .inl pf32)), (ph7, .inl (K 0, 12, .inl pf33)), (ph8, .inr (6, [.ref ph9, .ref ph10, .int 0, .int (-1), .int 0])), (ph9, .inl (K 0, 252, .inl pf34)), (ph10, .inl (K 0, 12, .inl pf35))] sz (qkX11_join_117 ph0 ph1 ph2 ph3 ph4 ph5 ph6 ph7 ph8 ph9 ph10 pg11 pg12 pg13 pg14 pg15 pg16 pg17 pg18 pg19 pg20 pg21 pf22 pf23 pg24 pg25 pg26 pg27 pg28 pg29 pg30 pg31 pf32 pf33 pf34 pf35 px36 px37 px38 px39) (vkX11_join_117 K ph0 ph1 ph2 ph3 ph4 ph5 ph6 ph7 ph8 ph9 ph10 pg11 pg12 pg13 pg14 pg15 pg16 pg17 pg18 pg19 pg20 pg21 pf22 pf23 pg24 pg25 pg26 pg27 pg28 pg29 pg30 pg31 pf32 pf33 pf34 pf35 px36 px37 px38 px39) := by
  refine uMet (Qc := uQi D (qkX11_join_117 ph0 ph1 ph2 ph3 ph4 ph5 ph6 ph7 ph8 ph9 ph10 pg11 pg12 pg13 pg14 pg15 pg16 pg17 pg18 pg19 pg20 pg21 pf22 pf23 pg24 pg25 pg26 pg27 pg28 pg29 pg30 pg31 pf32 pf33 pf34 pf35 px36 px37 px38 px39) (vkX11_join_117 K ph0 ph1 ph2 ph3 ph4 ph5 ph6 ph7 ph8 ph9 ph10 pg11 pg12 pg13 pg14 pg15 pg16 pg17 pg18 pg19 pg20 pg21 pf22 pf23 pg24 pg25 pg26 pg27 pg28 pg29 pg30 pg31 pf32 pf33 pf34 pf35 px36 px37 px38 px39)) (ret := (some .int)) (by decide) (Nat.le_of_ble_eq_true rfl) ?_
  intro p e s m below meth c A ls hAe hsz B hP hD hS hl
  have hx := B.1
  have hb := B.2.1
  have hl : lv_has ls 5 [(0, .ref ph0), (1, .int px36), (2, .int px37), (3, .int px38), (4, .int px39)] := hl
  refine lv_iload_n hx hb dX11_join_0 rfl (lv_at hl 1 rfl) ?_
  refine lv_iload_n hx hb dX11_join_1 rfl (lv_at hl 2 rfl) ?_
  refine lv_iload_n hx hb dX11_join_2 rfl (lv_at hl 3 rfl) ?_
  refine lv_iload hx hb dX11_join_3 (lv_at hl 4 rfl) ?_
  refine uSi (As := [.int px36, .int px37, .int px38, .int px39]) (rest := []) (wr := [(ph0, .inr (11, [.ref pg11, .ref ph5, .ref pg12, .ref ph2, .ref ph1, .ref ph8, .ref pg13, .ref pg14, .ref pg15, .ref pg16, .ref pg17])), (ph1, .inr (1, [.ref ph5, .ref ph2, .ref pg12, .ref ph6, .ref ph7, .int 0, .int 0])), (ph2, .inr (3, [.ref pg18, .ref pg19, .ref pg20, .ref pg21, .ref ph3, .ref ph4, .int 0, .int (-1), .int 1, .int 0])), (ph3, .inl (K 0, 24, .inl pf22)), (ph4, .inl (K 0, 24, .inl pf23)), (ph5, .inr (4, [.ref pg11, .ref pg24, .ref pg25, .ref pg26, .ref pg27, .ref pg28, .ref pg29, .ref pg30, .ref pg31, .int 0])), (ph6, .inl (K 0, 12, .inl pf32)), (ph7, .inl (K 0, 12, .inl pf33)), (ph8, .inr (6, [.ref ph9, .ref ph10, .int 0, .int (-1), .int 0])), (ph9, .inl (K 0, 252, .inl pf34)), (ph10, .inl (K 0, 12, .inl pf35))]) [] B hl.1 hP hD hS [] [0, 1, 2, 3, 4, 5, 6, 7, 8, 9, 10] rfl rfl rfl (kX11_isLine_83 l D K _ px36 px37 px38 px39) wd_X11_isLine mml_X11_182 rfl rfl ⟨Nat.le_of_ble_eq_true rfl, Nat.le_of_ble_eq_true rfl⟩ (Nat.le_of_ble_eq_true rfl) ⟨Nat.le_of_ble_eq_true rfl, Nat.le_of_ble_eq_true rfl⟩ dX11_join_5 (fun r1 u H locs hw hP hD hS => ?_)
  try dsimp only at hw
  rcases hw with ⟨rfl, w2⟩ | ⟨rfl, w3⟩
  · have hP : va_P D vwCl [(ph0, .inr (11, [.ref pg11, .ref ph5, .ref pg12, .ref ph2, .ref ph1, .ref ph8, .ref pg13, .ref pg14, .ref pg15, .ref pg16, .ref pg17])), (ph1, .inr (1, [.ref ph5, .ref ph2, .ref pg12, .ref ph6, .ref ph7, .int 0, .int 0])), (ph2, .inr (3, [.ref pg18, .ref pg19, .ref pg20, .ref pg21, .ref ph3, .ref ph4, .int 0, .int (-1), .int 1, .int 0])), (ph3, .inl (K 0, 24, .inl pf22)), (ph4, .inl (K 0, 24, .inl pf23)), (ph5, .inr (4, [.ref pg11, .ref pg24, .ref pg25, .ref pg26, .ref pg27, .ref pg28, .ref pg29, .ref pg30, .ref pg31, .int 0])), (ph6, .inl (K 0, 12, .inl pf32)), (ph7, .inl (K 0, 12, .inl pf33)), (ph8, .inr (6, [.ref ph9, .ref ph10, .int 0, .int (-1), .int 0])), (ph9, .inl (K 0, 252, .inl pf34)), (ph10, .inl (K 0, 12, .inl pf35))] H := hP
    have hD : va_D A [(ph0, .inr (11, [.ref pg11, .ref ph5, .ref pg12, .ref ph2, .ref ph1, .ref ph8, .ref pg13, .ref pg14, .ref pg15, .ref pg16, .ref pg17])), (ph1, .inr (1, [.ref ph5, .ref ph2, .ref pg12, .ref ph6, .ref ph7, .int 0, .int 0])), (ph2, .inr (3, [.ref pg18, .ref pg19, .ref pg20, .ref pg21, .ref ph3, .ref ph4, .int 0, .int (-1), .int 1, .int 0])), (ph3, .inl (K 0, 24, .inl pf22)), (ph4, .inl (K 0, 24, .inl pf23)), (ph5, .inr (4, [.ref pg11, .ref pg24, .ref pg25, .ref pg26, .ref pg27, .ref pg28, .ref pg29, .ref pg30, .ref pg31, .int 0])), (ph6, .inl (K 0, 12, .inl pf32)), (ph7, .inl (K 0, 12, .inl pf33)), (ph8, .inr (6, [.ref ph9, .ref ph10, .int 0, .int (-1), .int 0])), (ph9, .inl (K 0, 252, .inl pf34)), (ph10, .inl (K 0, 12, .inl pf35))] := hD
    refine lv_pc (q := 8) rfl ?_
    refine lv_if_ne (tgt := 13) hx hb dX11_join_8 (by decide) (fun h9 => absurd (by decide) h9) (fun _ => ?_)
    refine lv_iconst (v := (-1)) hx hb dX11_join_11 (by decide) ?_
    exact uRi () B (Or.inl ⟨rfl, w2⟩) (uSub hP [] rfl) (hD.sub [] rfl rfl) hS dX11_join_12
  have hP : va_P D vwCl [(ph0, .inr (11, [.ref pg11, .ref ph5, .ref pg12, .ref ph2, .ref ph1, .ref ph8, .ref pg13, .ref pg14, .ref pg15, .ref pg16, .ref pg17])), (ph1, .inr (1, [.ref ph5, .ref ph2, .ref pg12, .ref ph6, .ref ph7, .int 0, .int 0])), (ph2, .inr (3, [.ref pg18, .ref pg19, .ref pg20, .ref pg21, .ref ph3, .ref ph4, .int 0, .int (-1), .int 1, .int 0])), (ph3, .inl (K 0, 24, .inl pf22)), (ph4, .inl (K 0, 24, .inl pf23)), (ph5, .inr (4, [.ref pg11, .ref pg24, .ref pg25, .ref pg26, .ref pg27, .ref pg28, .ref pg29, .ref pg30, .ref pg31, .int 0])), (ph6, .inl (K 0, 12, .inl pf32)), (ph7, .inl (K 0, 12, .inl pf33)), (ph8, .inr (6, [.ref ph9, .ref ph10, .int 0, .int (-1), .int 0])), (ph9, .inl (K 0, 252, .inl pf34)), (ph10, .inl (K 0, 12, .inl pf35))] H := hP
  have hD : va_D A [(ph0, .inr (11, [.ref pg11, .ref ph5, .ref pg12, .ref ph2, .ref ph1, .ref ph8, .ref pg13, .ref pg14, .ref pg15, .ref pg16, .ref pg17])), (ph1, .inr (1, [.ref ph5, .ref ph2, .ref pg12, .ref ph6, .ref ph7, .int 0, .int 0])), (ph2, .inr (3, [.ref pg18, .ref pg19, .ref pg20, .ref pg21, .ref ph3, .ref ph4, .int 0, .int (-1), .int 1, .int 0])), (ph3, .inl (K 0, 24, .inl pf22)), (ph4, .inl (K 0, 24, .inl pf23)), (ph5, .inr (4, [.ref pg11, .ref pg24, .ref pg25, .ref pg26, .ref pg27, .ref pg28, .ref pg29, .ref pg30, .ref pg31, .int 0])), (ph6, .inl (K 0, 12, .inl pf32)), (ph7, .inl (K 0, 12, .inl pf33)), (ph8, .inr (6, [.ref ph9, .ref ph10, .int 0, .int (-1), .int 0])), (ph9, .inl (K 0, 252, .inl pf34)), (ph10, .inl (K 0, 12, .inl pf35))] := hD
  refine lv_pc (q := 8) rfl ?_
  refine lv_if_ne (tgt := 13) hx hb dX11_join_8 (by decide) (fun _ => ?_) (fun h9 => absurd h9 (by decide))
  refine lv_aload_n hx hb dX11_join_13 rfl (lv_at hl 0 rfl) ?_
  refine uGet (ci := 11) (C := RX11) (T := TX11) (N := 11) (v := .ref ph1) B inlX11 hP 0 rfl rfl 4 rfl mfl_X11_46 rfl rfl dX11_join_14 ?_
  refine lv_iload_n hx hb dX11_join_17 rfl (lv_at hl 1 rfl) ?_
  refine lv_iload_n hx hb dX11_join_18 rfl (lv_at hl 2 rfl) ?_
  refine lv_iload_n hx hb dX11_join_19 rfl (lv_at hl 3 rfl) ?_
  refine lv_pc (q := 20) rfl ?_
  refine lv_iload hx hb dX11_join_20 (lv_at hl 4 rfl) ?_
  refine lv_iconst (v := 1) hx hb dX11_join_22 (by decide) ?_
  refine uVv (As := [.int px36, .int px37, .int px38, .int px39, .int 1]) (rest := []) (wr := [(ph0, .inr (11, [.ref pg11, .ref ph5, .ref pg12, .ref ph2, .ref ph1, .ref ph8, .ref pg13, .ref pg14, .ref pg15, .ref pg16, .ref pg17])), (ph8, .inr (6, [.ref ph9, .ref ph10, .int 0, .int (-1), .int 0])), (ph9, .inl (K 0, 252, .inl pf34)), (ph10, .inl (K 0, 12, .inl pf35))]) [(ph1, .inr (1, [.ref ph5, .ref ph2, .ref pg12, .ref ph6, .ref ph7, .int 0, .int 0])), (ph2, .inr (3, [.ref pg18, .ref pg19, .ref pg20, .ref pg21, .ref ph3, .ref ph4, .int 0, .int (-1), .int 1, .int 0])), (ph3, .inl (K 0, 24, .inl pf22)), (ph4, .inl (K 0, 24, .inl pf23)), (ph5, .inr (4, [.ref pg11, .ref pg24, .ref pg25, .ref pg26, .ref pg27, .ref pg28, .ref pg29, .ref pg30, .ref pg31, .int 0])), (ph6, .inl (K 0, 12, .inl pf32)), (ph7, .inl (K 0, 12, .inl pf33))] B hl.1 hP hD hS [1, 2, 3, 4, 5, 6, 7] [0, 8, 9, 10] rfl rfl rfl (kX1_draw_109 l D K _ ph1 ph2 ph3 ph4 ph5 ph6 ph7 pg12 pg18 pg19 pg20 pg21 pf22 pf23 pg11 pg24 pg25 pg26 pg27 pg28 pg29 pg30 pg31 pf32 pf33 px36 px37 px38 px39) wd_X1_draw mml_X11_185 rfl rfl rfl rfl ⟨Nat.le_of_ble_eq_true rfl, Nat.le_of_ble_eq_true rfl⟩ (Nat.le_of_ble_eq_true rfl) ⟨Nat.le_of_ble_eq_true rfl, Nat.le_of_ble_eq_true rfl⟩ dX11_join_23 (fun u H locs hw hP hD hS => ?_)
  obtain ⟨u5, u6, u7, u8, u9⟩ := u
  try dsimp only at hw
  rcases hw with rfl | rfl
  · have hP : va_P D vwCl [(ph0, .inr (11, [.ref pg11, .ref ph5, .ref pg12, .ref ph2, .ref ph1, .ref ph8, .ref pg13, .ref pg14, .ref pg15, .ref pg16, .ref pg17])), (ph8, .inr (6, [.ref ph9, .ref ph10, .int 0, .int (-1), .int 0])), (ph9, .inl (K 0, 252, .inl pf34)), (ph10, .inl (K 0, 12, .inl pf35)), (ph1, .inr (1, [.ref ph5, .ref ph2, .ref pg12, .ref ph6, .ref ph7, .int 0, .int 0])), (ph2, .inr (3, [.ref pg18, .ref pg19, .ref pg20, .ref pg21, .ref ph3, .ref ph4, .int 0, .int 0, .int 1, .int 0])), (ph3, .inl (K 0, 24, .inl u6)), (ph4, .inl (K 0, 24, .inl u7)), (ph5, .inr (4, [.ref pg11, .ref pg24, .ref pg25, .ref pg26, .ref pg27, .ref pg28, .ref pg29, .ref pg30, .ref pg31, .int 0])), (ph6, .inl (K 0, 12, .inl u8)), (ph7, .inl (K 0, 12, .inl u9))] H := hP
    have hD : va_D A [(ph0, .inr (11, [.ref pg11, .ref ph5, .ref pg12, .ref ph2, .ref ph1, .ref ph8, .ref pg13, .ref pg14, .ref pg15, .ref pg16, .ref pg17])), (ph8, .inr (6, [.ref ph9, .ref ph10, .int 0, .int (-1), .int 0])), (ph9, .inl (K 0, 252, .inl pf34)), (ph10, .inl (K 0, 12, .inl pf35)), (ph1, .inr (1, [.ref ph5, .ref ph2, .ref pg12, .ref ph6, .ref ph7, .int 0, .int 0])), (ph2, .inr (3, [.ref pg18, .ref pg19, .ref pg20, .ref pg21, .ref ph3, .ref ph4, .int 0, .int 0, .int 1, .int 0])), (ph3, .inl (K 0, 24, .inl u6)), (ph4, .inl (K 0, 24, .inl u7)), (ph5, .inr (4, [.ref pg11, .ref pg24, .ref pg25, .ref pg26, .ref pg27, .ref pg28, .ref pg29, .ref pg30, .ref pg31, .int 0])), (ph6, .inl (K 0, 12, .inl u8)), (ph7, .inl (K 0, 12, .inl u9))] := hD
    refine lv_aload_n hx hb dX11_join_26 rfl (lv_at hl 0 rfl) ?_
    refine uGet (ci := 11) (C := RX11) (T := TX11) (N := 11) (v := .ref ph8) B inlX11 hP 0 rfl rfl 5 rfl mfl_X11_53 rfl rfl dX11_join_27 ?_
    refine lv_aload_n hx hb dX11_join_30 rfl (lv_at hl 0 rfl) ?_
    refine lv_pc (q := 31) rfl ?_
    refine uGet (ci := 11) (C := RX11) (T := TX11) (N := 11) (v := .ref ph1) B inlX11 hP 0 rfl rfl 4 rfl mfl_X11_46 rfl rfl dX11_join_31 ?_
    refine uVi (As := [.ref ph1]) (rest := []) (wr := [(ph0, .inr (11, [.ref pg11, .ref ph5, .ref pg12, .ref ph2, .ref ph1, .ref ph8, .ref pg13, .ref pg14, .ref pg15, .ref pg16, .ref pg17])), (ph2, .inr (3, [.ref pg18, .ref pg19, .ref pg20, .ref pg21, .ref ph3, .ref ph4, .int 0, .int 0, .int 1, .int 0])), (ph3, .inl (K 0, 24, .inl u6)), (ph4, .inl (K 0, 24, .inl u7)), (ph5, .inr (4, [.ref pg11, .ref pg24, .ref pg25, .ref pg26, .ref pg27, .ref pg28, .ref pg29, .ref pg30, .ref pg31, .int 0])), (ph6, .inl (K 0, 12, .inl u8)), (ph7, .inl (K 0, 12, .inl u9))]) [(ph8, .inr (6, [.ref ph9, .ref ph10, .int 0, .int (-1), .int 0])), (ph1, .inr (1, [.ref ph5, .ref ph2, .ref pg12, .ref ph6, .ref ph7, .int 0, .int 0])), (ph9, .inl (K 0, 252, .inl pf34)), (ph10, .inl (K 0, 12, .inl pf35))] B hl.1 hP hD hS [1, 4, 2, 3] [0, 5, 6, 7, 8, 9, 10] rfl rfl rfl (kX6_find_116 l D K _ ph8 ph1 ph9 ph10 ph5 ph2 pg12 ph6 ph7 pf34 pf35) wd_X6_find mml_X11_198 rfl rfl rfl rfl ⟨Nat.le_of_ble_eq_true rfl, Nat.le_of_ble_eq_true rfl⟩ (Nat.le_of_ble_eq_true rfl) ⟨Nat.le_of_ble_eq_true rfl, Nat.le_of_ble_eq_true rfl⟩ dX11_join_34 (fun r10 u H locs hw hP hD hS => ?_)
    obtain ⟨u11, u12⟩ := u
    try dsimp only at hw
    rcases hw with rfl
    have hP : va_P D vwCl [(ph0, .inr (11, [.ref pg11, .ref ph5, .ref pg12, .ref ph2, .ref ph1, .ref ph8, .ref pg13, .ref pg14, .ref pg15, .ref pg16, .ref pg17])), (ph2, .inr (3, [.ref pg18, .ref pg19, .ref pg20, .ref pg21, .ref ph3, .ref ph4, .int 0, .int 0, .int 1, .int 0])), (ph3, .inl (K 0, 24, .inl u6)), (ph4, .inl (K 0, 24, .inl u7)), (ph5, .inr (4, [.ref pg11, .ref pg24, .ref pg25, .ref pg26, .ref pg27, .ref pg28, .ref pg29, .ref pg30, .ref pg31, .int 0])), (ph6, .inl (K 0, 12, .inl u8)), (ph7, .inl (K 0, 12, .inl u9)), (ph8, .inr (6, [.ref ph9, .ref ph10, .int 1, .int 0, .int 1])), (ph1, .inr (1, [.ref ph5, .ref ph2, .ref pg12, .ref ph6, .ref ph7, .int 0, .int 0])), (ph9, .inl (K 0, 252, .inl u11)), (ph10, .inl (K 0, 12, .inl u12))] H := hP
    have hD : va_D A [(ph0, .inr (11, [.ref pg11, .ref ph5, .ref pg12, .ref ph2, .ref ph1, .ref ph8, .ref pg13, .ref pg14, .ref pg15, .ref pg16, .ref pg17])), (ph2, .inr (3, [.ref pg18, .ref pg19, .ref pg20, .ref pg21, .ref ph3, .ref ph4, .int 0, .int 0, .int 1, .int 0])), (ph3, .inl (K 0, 24, .inl u6)), (ph4, .inl (K 0, 24, .inl u7)), (ph5, .inr (4, [.ref pg11, .ref pg24, .ref pg25, .ref pg26, .ref pg27, .ref pg28, .ref pg29, .ref pg30, .ref pg31, .int 0])), (ph6, .inl (K 0, 12, .inl u8)), (ph7, .inl (K 0, 12, .inl u9)), (ph8, .inr (6, [.ref ph9, .ref ph10, .int 1, .int 0, .int 1])), (ph1, .inr (1, [.ref ph5, .ref ph2, .ref pg12, .ref ph6, .ref ph7, .int 0, .int 0])), (ph9, .inl (K 0, 252, .inl u11)), (ph10, .inl (K 0, 12, .inl u12))] := hD
    exact uRi () B (Or.inr ⟨rfl, Or.inl w3⟩) (uSub hP [] rfl) (hD.sub [] rfl rfl) hS dX11_join_37
  have hP : va_P D vwCl [(ph0, .inr (11, [.ref pg11, .ref ph5, .ref pg12, .ref ph2, .ref ph1, .ref ph8, .ref pg13, .ref pg14, .ref pg15, .ref pg16, .ref pg17])), (ph8, .inr (6, [.ref ph9, .ref ph10, .int 0, .int (-1), .int 0])), (ph9, .inl (K 0, 252, .inl pf34)), (ph10, .inl (K 0, 12, .inl pf35)), (ph1, .inr (1, [.ref ph5, .ref ph2, .ref pg12, .ref ph6, .ref ph7, .int 0, .int 0])), (ph2, .inr (3, [.ref pg18, .ref pg19, .ref pg20, .ref pg21, .ref ph3, .ref ph4, .int 0, .int 0, .int 0, .int 0])), (ph3, .inl (K 0, 24, .inl u6)), (ph4, .inl (K 0, 24, .inl u7)), (ph5, .inr (4, [.ref pg11, .ref pg24, .ref pg25, .ref pg26, .ref pg27, .ref pg28, .ref pg29, .ref pg30, .ref pg31, .int 0])), (ph6, .inl (K 0, 12, .inl u8)), (ph7, .inl (K 0, 12, .inl u9))] H := hP
  have hD : va_D A [(ph0, .inr (11, [.ref pg11, .ref ph5, .ref pg12, .ref ph2, .ref ph1, .ref ph8, .ref pg13, .ref pg14, .ref pg15, .ref pg16, .ref pg17])), (ph8, .inr (6, [.ref ph9, .ref ph10, .int 0, .int (-1), .int 0])), (ph9, .inl (K 0, 252, .inl pf34)), (ph10, .inl (K 0, 12, .inl pf35)), (ph1, .inr (1, [.ref ph5, .ref ph2, .ref pg12, .ref ph6, .ref ph7, .int 0, .int 0])), (ph2, .inr (3, [.ref pg18, .ref pg19, .ref pg20, .ref pg21, .ref ph3, .ref ph4, .int 0, .int 0, .int 0, .int 0])), (ph3, .inl (K 0, 24, .inl u6)), (ph4, .inl (K 0, 24, .inl u7)), (ph5, .inr (4, [.ref pg11, .ref pg24, .ref pg25, .ref pg26, .ref pg27, .ref pg28, .ref pg29, .ref pg30, .ref pg31, .int 0])), (ph6, .inl (K 0, 12, .inl u8)), (ph7, .inl (K 0, 12, .inl u9))] := hD
  refine lv_aload_n hx hb dX11_join_26 rfl (lv_at hl 0 rfl) ?_
  refine uGet (ci := 11) (C := RX11) (T := TX11) (N := 11) (v := .ref ph8) B inlX11 hP 0 rfl rfl 5 rfl mfl_X11_53 rfl rfl dX11_join_27 ?_
  refine lv_aload_n hx hb dX11_join_30 rfl (lv_at hl 0 rfl) ?_
  refine lv_pc (q := 31) rfl ?_
  refine uGet (ci := 11) (C := RX11) (T := TX11) (N := 11) (v := .ref ph1) B inlX11 hP 0 rfl rfl 4 rfl mfl_X11_46 rfl rfl dX11_join_31 ?_
  refine uVi (As := [.ref ph1]) (rest := []) (wr := [(ph0, .inr (11, [.ref pg11, .ref ph5, .ref pg12, .ref ph2, .ref ph1, .ref ph8, .ref pg13, .ref pg14, .ref pg15, .ref pg16, .ref pg17])), (ph2, .inr (3, [.ref pg18, .ref pg19, .ref pg20, .ref pg21, .ref ph3, .ref ph4, .int 0, .int 0, .int 0, .int 0])), (ph3, .inl (K 0, 24, .inl u6)), (ph4, .inl (K 0, 24, .inl u7)), (ph5, .inr (4, [.ref pg11, .ref pg24, .ref pg25, .ref pg26, .ref pg27, .ref pg28, .ref pg29, .ref pg30, .ref pg31, .int 0])), (ph6, .inl (K 0, 12, .inl u8)), (ph7, .inl (K 0, 12, .inl u9))]) [(ph8, .inr (6, [.ref ph9, .ref ph10, .int 0, .int (-1), .int 0])), (ph1, .inr (1, [.ref ph5, .ref ph2, .ref pg12, .ref ph6, .ref ph7, .int 0, .int 0])), (ph9, .inl (K 0, 252, .inl pf34)), (ph10, .inl (K 0, 12, .inl pf35))] B hl.1 hP hD hS [1, 4, 2, 3] [0, 5, 6, 7, 8, 9, 10] rfl rfl rfl (kX6_find_116 l D K _ ph8 ph1 ph9 ph10 ph5 ph2 pg12 ph6 ph7 pf34 pf35) wd_X6_find mml_X11_198 rfl rfl rfl rfl ⟨Nat.le_of_ble_eq_true rfl, Nat.le_of_ble_eq_true rfl⟩ (Nat.le_of_ble_eq_true rfl) ⟨Nat.le_of_ble_eq_true rfl, Nat.le_of_ble_eq_true rfl⟩ dX11_join_34 (fun r13 u H locs hw hP hD hS => ?_)
  obtain ⟨u14, u15⟩ := u
  try dsimp only at hw
  rcases hw with rfl
  have hP : va_P D vwCl [(ph0, .inr (11, [.ref pg11, .ref ph5, .ref pg12, .ref ph2, .ref ph1, .ref ph8, .ref pg13, .ref pg14, .ref pg15, .ref pg16, .ref pg17])), (ph2, .inr (3, [.ref pg18, .ref pg19, .ref pg20, .ref pg21, .ref ph3, .ref ph4, .int 0, .int 0, .int 0, .int 0])), (ph3, .inl (K 0, 24, .inl u6)), (ph4, .inl (K 0, 24, .inl u7)), (ph5, .inr (4, [.ref pg11, .ref pg24, .ref pg25, .ref pg26, .ref pg27, .ref pg28, .ref pg29, .ref pg30, .ref pg31, .int 0])), (ph6, .inl (K 0, 12, .inl u8)), (ph7, .inl (K 0, 12, .inl u9)), (ph8, .inr (6, [.ref ph9, .ref ph10, .int 1, .int 0, .int 1])), (ph1, .inr (1, [.ref ph5, .ref ph2, .ref pg12, .ref ph6, .ref ph7, .int 0, .int 0])), (ph9, .inl (K 0, 252, .inl u14)), (ph10, .inl (K 0, 12, .inl u15))] H := hP
  have hD : va_D A [(ph0, .inr (11, [.ref pg11, .ref ph5, .ref pg12, .ref ph2, .ref ph1, .ref ph8, .ref pg13, .ref pg14, .ref pg15, .ref pg16, .ref pg17])), (ph2, .inr (3, [.ref pg18, .ref pg19, .ref pg20, .ref pg21, .ref ph3, .ref ph4, .int 0, .int 0, .int 0, .int 0])), (ph3, .inl (K 0, 24, .inl u6)), (ph4, .inl (K 0, 24, .inl u7)), (ph5, .inr (4, [.ref pg11, .ref pg24, .ref pg25, .ref pg26, .ref pg27, .ref pg28, .ref pg29, .ref pg30, .ref pg31, .int 0])), (ph6, .inl (K 0, 12, .inl u8)), (ph7, .inl (K 0, 12, .inl u9)), (ph8, .inr (6, [.ref ph9, .ref ph10, .int 1, .int 0, .int 1])), (ph1, .inr (1, [.ref ph5, .ref ph2, .ref pg12, .ref ph6, .ref ph7, .int 0, .int 0])), (ph9, .inl (K 0, 252, .inl u14)), (ph10, .inl (K 0, 12, .inl u15))] := hD
  exact uRi () B (Or.inr ⟨rfl, Or.inr w3⟩) (uSub hP [] rfl) (hD.sub [] rfl rfl) hS dX11_join_37
def qkX12_many_118  : Int32 → (Unit) → Prop := (fun (r : Int32) (u : Unit) => r = 0)
def vkX12_many_118 (K : Nat → ClassId)  : (Unit) → va_W := (fun (u : Unit) => [])
set_option maxHeartbeats 4000000 in
set_option maxRecDepth 100000 in
theorem kX12_many_118 (l : Launch) (D : va_G) (K : Nat → ClassId) (sz : Nat)  : uMi l yX12_many cX12_many 3 (some .int) { frames := 0, cells := 0, slots := 0, locals := 0 } [.int 0] D K [] sz (qkX12_many_118 ) (vkX12_many_118 K ) := by
  refine uMet (Qc := uQi D (qkX12_many_118 ) (vkX12_many_118 K )) (ret := (some .int)) (by decide) (Nat.le_of_ble_eq_true rfl) ?_
  intro p e s m below meth c A ls hAe hsz B hP hD hS hl
  have hx := B.1
  have hb := B.2.1
  have hl : lv_has ls 3 [(0, .int 0)] := hl
  refine lv_iconst (v := 0) hx hb dX12_many_0 (by decide) ?_
  refine lv_istore_n (lv' := [(1, .int 0), (0, .int 0)]) hx hb dX12_many_1 rfl hl (by decide) rfl (fun ls hl => ?_)
  refine lv_iconst (v := 0) hx hb dX12_many_2 (by decide) ?_
  refine lv_istore_n (lv' := [(2, .int 0), (1, .int 0), (0, .int 0)]) hx hb dX12_many_3 rfl hl (by decide) rfl (fun ls hl => ?_)
  refine lv_iload_n hx hb dX12_many_4 rfl (lv_at hl 0 rfl) ?_
  refine lv_pc (q := 5) rfl ?_
  refine lv_bipush (v := 12) hx hb dX12_many_5 (by decide) ?_
  refine lv_icmp_ge (tgt := 24) hx hb dX12_many_7 (by decide) (fun h9 => absurd h9 (by decide)) (fun _ => ?_)
  refine lv_iload_n hx hb dX12_many_10 rfl (lv_at hl 1 rfl) ?_
  refine lv_iload_n hx hb dX12_many_11 rfl (lv_at hl 2 rfl) ?_
  refine lv_iload_n hx hb dX12_many_12 rfl (lv_at hl 0 rfl) ?_
  refine lv_ishr hx hb dX12_many_13 ?_
  refine lv_fixi (y := 0) (by decide) ?_
  refine lv_pc (q := 14) rfl ?_
  refine lv_iconst (v := 1) hx hb dX12_many_14 (by decide) ?_
  refine lv_iand hx hb dX12_many_15 ?_
  refine lv_fixi (y := 0) (by decide) ?_
  refine lv_iadd hx hb dX12_many_16 ?_
  refine lv_fixi (y := 0) (by decide) ?_
  refine lv_istore_n (lv' := [(1, .int 0), (2, .int 0), (0, .int 0)]) hx hb dX12_many_17 rfl hl (by decide) rfl (fun ls hl => ?_)
  refine lv_iinc (v := 1) (lv' := [(2, .int 1), (1, .int 0), (0, .int 0)]) hx hb dX12_many_18 hl (k := 1) rfl (by decide) (by decide) rfl (fun ls hl => ?_)
  refine lv_goto (tgt := 4) hx hb dX12_many_21 (by decide) ?_
  refine lv_pc (q := 4) rfl ?_
  refine lv_iload_n hx hb dX12_many_4 rfl (lv_at hl 0 rfl) ?_
  refine lv_bipush (v := 12) hx hb dX12_many_5 (by decide) ?_
  refine lv_icmp_ge (tgt := 24) hx hb dX12_many_7 (by decide) (fun h9 => absurd h9 (by decide)) (fun _ => ?_)
  refine lv_iload_n hx hb dX12_many_10 rfl (lv_at hl 1 rfl) ?_
  refine lv_iload_n hx hb dX12_many_11 rfl (lv_at hl 2 rfl) ?_
  refine lv_iload_n hx hb dX12_many_12 rfl (lv_at hl 0 rfl) ?_
  refine lv_pc (q := 13) rfl ?_
  refine lv_ishr hx hb dX12_many_13 ?_
  refine lv_fixi (y := 0) (by decide) ?_
  refine lv_iconst (v := 1) hx hb dX12_many_14 (by decide) ?_
  refine lv_iand hx hb dX12_many_15 ?_
  refine lv_fixi (y := 0) (by decide) ?_
  refine lv_iadd hx hb dX12_many_16 ?_
  refine lv_fixi (y := 0) (by decide) ?_
  refine lv_istore_n (lv' := [(1, .int 0), (2, .int 1), (0, .int 0)]) hx hb dX12_many_17 rfl hl (by decide) rfl (fun ls hl => ?_)
  refine lv_iinc (v := 2) (lv' := [(2, .int 2), (1, .int 0), (0, .int 0)]) hx hb dX12_many_18 hl (k := 1) rfl (by decide) (by decide) rfl (fun ls hl => ?_)
  refine lv_pc (q := 21) rfl ?_
  refine lv_goto (tgt := 4) hx hb dX12_many_21 (by decide) ?_
  refine lv_iload_n hx hb dX12_many_4 rfl (lv_at hl 0 rfl) ?_
  refine lv_bipush (v := 12) hx hb dX12_many_5 (by decide) ?_
  refine lv_icmp_ge (tgt := 24) hx hb dX12_many_7 (by decide) (fun h9 => absurd h9 (by decide)) (fun _ => ?_)
  refine lv_iload_n hx hb dX12_many_10 rfl (lv_at hl 1 rfl) ?_
  refine lv_iload_n hx hb dX12_many_11 rfl (lv_at hl 2 rfl) ?_
  refine lv_pc (q := 12) rfl ?_
  refine lv_iload_n hx hb dX12_many_12 rfl (lv_at hl 0 rfl) ?_
  refine lv_ishr hx hb dX12_many_13 ?_
  refine lv_fixi (y := 0) (by decide) ?_
  refine lv_iconst (v := 1) hx hb dX12_many_14 (by decide) ?_
  refine lv_iand hx hb dX12_many_15 ?_
  refine lv_fixi (y := 0) (by decide) ?_
  refine lv_iadd hx hb dX12_many_16 ?_
  refine lv_fixi (y := 0) (by decide) ?_
  refine lv_istore_n (lv' := [(1, .int 0), (2, .int 2), (0, .int 0)]) hx hb dX12_many_17 rfl hl (by decide) rfl (fun ls hl => ?_)
  refine lv_pc (q := 18) rfl ?_
  refine lv_iinc (v := 3) (lv' := [(2, .int 3), (1, .int 0), (0, .int 0)]) hx hb dX12_many_18 hl (k := 1) rfl (by decide) (by decide) rfl (fun ls hl => ?_)
  refine lv_goto (tgt := 4) hx hb dX12_many_21 (by decide) ?_
  refine lv_iload_n hx hb dX12_many_4 rfl (lv_at hl 0 rfl) ?_
  refine lv_bipush (v := 12) hx hb dX12_many_5 (by decide) ?_
  refine lv_icmp_ge (tgt := 24) hx hb dX12_many_7 (by decide) (fun h9 => absurd h9 (by decide)) (fun _ => ?_)
  refine lv_iload_n hx hb dX12_many_10 rfl (lv_at hl 1 rfl) ?_
  refine lv_pc (q := 11) rfl ?_
  refine lv_iload_n hx hb dX12_many_11 rfl (lv_at hl 2 rfl) ?_
  refine lv_iload_n hx hb dX12_many_12 rfl (lv_at hl 0 rfl) ?_
  refine lv_ishr hx hb dX12_many_13 ?_
  refine lv_fixi (y := 0) (by decide) ?_
  refine lv_iconst (v := 1) hx hb dX12_many_14 (by decide) ?_
  refine lv_iand hx hb dX12_many_15 ?_
  refine lv_fixi (y := 0) (by decide) ?_
  refine lv_iadd hx hb dX12_many_16 ?_
  refine lv_fixi (y := 0) (by decide) ?_
  refine lv_pc (q := 17) rfl ?_
  refine lv_istore_n (lv' := [(1, .int 0), (2, .int 3), (0, .int 0)]) hx hb dX12_many_17 rfl hl (by decide) rfl (fun ls hl => ?_)
  refine lv_iinc (v := 4) (lv' := [(2, .int 4), (1, .int 0), (0, .int 0)]) hx hb dX12_many_18 hl (k := 1) rfl (by decide) (by decide) rfl (fun ls hl => ?_)
  refine lv_goto (tgt := 4) hx hb dX12_many_21 (by decide) ?_
  refine lv_iload_n hx hb dX12_many_4 rfl (lv_at hl 0 rfl) ?_
  refine lv_bipush (v := 12) hx hb dX12_many_5 (by decide) ?_
  refine lv_icmp_ge (tgt := 24) hx hb dX12_many_7 (by decide) (fun h9 => absurd h9 (by decide)) (fun _ => ?_)
  refine lv_pc (q := 10) rfl ?_
  refine lv_iload_n hx hb dX12_many_10 rfl (lv_at hl 1 rfl) ?_
  refine lv_iload_n hx hb dX12_many_11 rfl (lv_at hl 2 rfl) ?_
  refine lv_iload_n hx hb dX12_many_12 rfl (lv_at hl 0 rfl) ?_
  refine lv_ishr hx hb dX12_many_13 ?_
  refine lv_fixi (y := 0) (by decide) ?_
  refine lv_iconst (v := 1) hx hb dX12_many_14 (by decide) ?_
  refine lv_iand hx hb dX12_many_15 ?_
  refine lv_fixi (y := 0) (by decide) ?_
  refine lv_pc (q := 16) rfl ?_
  refine lv_iadd hx hb dX12_many_16 ?_
  refine lv_fixi (y := 0) (by decide) ?_
  refine lv_istore_n (lv' := [(1, .int 0), (2, .int 4), (0, .int 0)]) hx hb dX12_many_17 rfl hl (by decide) rfl (fun ls hl => ?_)
  refine lv_iinc (v := 5) (lv' := [(2, .int 5), (1, .int 0), (0, .int 0)]) hx hb dX12_many_18 hl (k := 1) rfl (by decide) (by decide) rfl (fun ls hl => ?_)
  refine lv_goto (tgt := 4) hx hb dX12_many_21 (by decide) ?_
  refine lv_iload_n hx hb dX12_many_4 rfl (lv_at hl 0 rfl) ?_
  refine lv_bipush (v := 12) hx hb dX12_many_5 (by decide) ?_
  refine lv_pc (q := 7) rfl ?_
  refine lv_icmp_ge (tgt := 24) hx hb dX12_many_7 (by decide) (fun h9 => absurd h9 (by decide)) (fun _ => ?_)
  refine lv_iload_n hx hb dX12_many_10 rfl (lv_at hl 1 rfl) ?_
  refine lv_iload_n hx hb dX12_many_11 rfl (lv_at hl 2 rfl) ?_
  refine lv_iload_n hx hb dX12_many_12 rfl (lv_at hl 0 rfl) ?_
  refine lv_ishr hx hb dX12_many_13 ?_
  refine lv_fixi (y := 0) (by decide) ?_
  refine lv_iconst (v := 1) hx hb dX12_many_14 (by decide) ?_
  refine lv_pc (q := 15) rfl ?_
  refine lv_iand hx hb dX12_many_15 ?_
  refine lv_fixi (y := 0) (by decide) ?_
  refine lv_iadd hx hb dX12_many_16 ?_
  refine lv_fixi (y := 0) (by decide) ?_
  refine lv_istore_n (lv' := [(1, .int 0), (2, .int 5), (0, .int 0)]) hx hb dX12_many_17 rfl hl (by decide) rfl (fun ls hl => ?_)
  refine lv_iinc (v := 6) (lv' := [(2, .int 6), (1, .int 0), (0, .int 0)]) hx hb dX12_many_18 hl (k := 1) rfl (by decide) (by decide) rfl (fun ls hl => ?_)
  refine lv_goto (tgt := 4) hx hb dX12_many_21 (by decide) ?_
  refine lv_iload_n hx hb dX12_many_4 rfl (lv_at hl 0 rfl) ?_
  refine lv_pc (q := 5) rfl ?_
  refine lv_bipush (v := 12) hx hb dX12_many_5 (by decide) ?_
  refine lv_icmp_ge (tgt := 24) hx hb dX12_many_7 (by decide) (fun h9 => absurd h9 (by decide)) (fun _ => ?_)
  refine lv_iload_n hx hb dX12_many_10 rfl (lv_at hl 1 rfl) ?_
  refine lv_iload_n hx hb dX12_many_11 rfl (lv_at hl 2 rfl) ?_
  refine lv_iload_n hx hb dX12_many_12 rfl (lv_at hl 0 rfl) ?_
  refine lv_ishr hx hb dX12_many_13 ?_
  refine lv_fixi (y := 0) (by decide) ?_
  refine lv_pc (q := 14) rfl ?_
  refine lv_iconst (v := 1) hx hb dX12_many_14 (by decide) ?_
  refine lv_iand hx hb dX12_many_15 ?_
  refine lv_fixi (y := 0) (by decide) ?_
  refine lv_iadd hx hb dX12_many_16 ?_
  refine lv_fixi (y := 0) (by decide) ?_
  refine lv_istore_n (lv' := [(1, .int 0), (2, .int 6), (0, .int 0)]) hx hb dX12_many_17 rfl hl (by decide) rfl (fun ls hl => ?_)
  refine lv_iinc (v := 7) (lv' := [(2, .int 7), (1, .int 0), (0, .int 0)]) hx hb dX12_many_18 hl (k := 1) rfl (by decide) (by decide) rfl (fun ls hl => ?_)
  refine lv_goto (tgt := 4) hx hb dX12_many_21 (by decide) ?_
  refine lv_pc (q := 4) rfl ?_
  refine lv_iload_n hx hb dX12_many_4 rfl (lv_at hl 0 rfl) ?_
  refine lv_bipush (v := 12) hx hb dX12_many_5 (by decide) ?_
  refine lv_icmp_ge (tgt := 24) hx hb dX12_many_7 (by decide) (fun h9 => absurd h9 (by decide)) (fun _ => ?_)
  refine lv_iload_n hx hb dX12_many_10 rfl (lv_at hl 1 rfl) ?_
  refine lv_iload_n hx hb dX12_many_11 rfl (lv_at hl 2 rfl) ?_
  refine lv_iload_n hx hb dX12_many_12 rfl (lv_at hl 0 rfl) ?_
  refine lv_pc (q := 13) rfl ?_
  refine lv_ishr hx hb dX12_many_13 ?_
  refine lv_fixi (y := 0) (by decide) ?_
  refine lv_iconst (v := 1) hx hb dX12_many_14 (by decide) ?_
  refine lv_iand hx hb dX12_many_15 ?_
  refine lv_fixi (y := 0) (by decide) ?_
  refine lv_iadd hx hb dX12_many_16 ?_
  refine lv_fixi (y := 0) (by decide) ?_
  refine lv_istore_n (lv' := [(1, .int 0), (2, .int 7), (0, .int 0)]) hx hb dX12_many_17 rfl hl (by decide) rfl (fun ls hl => ?_)
  refine lv_iinc (v := 8) (lv' := [(2, .int 8), (1, .int 0), (0, .int 0)]) hx hb dX12_many_18 hl (k := 1) rfl (by decide) (by decide) rfl (fun ls hl => ?_)
  refine lv_pc (q := 21) rfl ?_
  refine lv_goto (tgt := 4) hx hb dX12_many_21 (by decide) ?_
  refine lv_iload_n hx hb dX12_many_4 rfl (lv_at hl 0 rfl) ?_
  refine lv_bipush (v := 12) hx hb dX12_many_5 (by decide) ?_
  refine lv_icmp_ge (tgt := 24) hx hb dX12_many_7 (by decide) (fun h9 => absurd h9 (by decide)) (fun _ => ?_)
  refine lv_iload_n hx hb dX12_many_10 rfl (lv_at hl 1 rfl) ?_
  refine lv_iload_n hx hb dX12_many_11 rfl (lv_at hl 2 rfl) ?_
  refine lv_pc (q := 12) rfl ?_
  refine lv_iload_n hx hb dX12_many_12 rfl (lv_at hl 0 rfl) ?_
  refine lv_ishr hx hb dX12_many_13 ?_
  refine lv_fixi (y := 0) (by decide) ?_
  refine lv_iconst (v := 1) hx hb dX12_many_14 (by decide) ?_
  refine lv_iand hx hb dX12_many_15 ?_
  refine lv_fixi (y := 0) (by decide) ?_
  refine lv_iadd hx hb dX12_many_16 ?_
  refine lv_fixi (y := 0) (by decide) ?_
  refine lv_istore_n (lv' := [(1, .int 0), (2, .int 8), (0, .int 0)]) hx hb dX12_many_17 rfl hl (by decide) rfl (fun ls hl => ?_)
  refine lv_pc (q := 18) rfl ?_
  refine lv_iinc (v := 9) (lv' := [(2, .int 9), (1, .int 0), (0, .int 0)]) hx hb dX12_many_18 hl (k := 1) rfl (by decide) (by decide) rfl (fun ls hl => ?_)
  refine lv_goto (tgt := 4) hx hb dX12_many_21 (by decide) ?_
  refine lv_iload_n hx hb dX12_many_4 rfl (lv_at hl 0 rfl) ?_
  refine lv_bipush (v := 12) hx hb dX12_many_5 (by decide) ?_
  refine lv_icmp_ge (tgt := 24) hx hb dX12_many_7 (by decide) (fun h9 => absurd h9 (by decide)) (fun _ => ?_)
  refine lv_iload_n hx hb dX12_many_10 rfl (lv_at hl 1 rfl) ?_
  refine lv_pc (q := 11) rfl ?_
  refine lv_iload_n hx hb dX12_many_11 rfl (lv_at hl 2 rfl) ?_
  refine lv_iload_n hx hb dX12_many_12 rfl (lv_at hl 0 rfl) ?_
  refine lv_ishr hx hb dX12_many_13 ?_
  refine lv_fixi (y := 0) (by decide) ?_
  refine lv_iconst (v := 1) hx hb dX12_many_14 (by decide) ?_
  refine lv_iand hx hb dX12_many_15 ?_
  refine lv_fixi (y := 0) (by decide) ?_
  refine lv_iadd hx hb dX12_many_16 ?_
  refine lv_fixi (y := 0) (by decide) ?_
  refine lv_pc (q := 17) rfl ?_
  refine lv_istore_n (lv' := [(1, .int 0), (2, .int 9), (0, .int 0)]) hx hb dX12_many_17 rfl hl (by decide) rfl (fun ls hl => ?_)
  refine lv_iinc (v := 10) (lv' := [(2, .int 10), (1, .int 0), (0, .int 0)]) hx hb dX12_many_18 hl (k := 1) rfl (by decide) (by decide) rfl (fun ls hl => ?_)
  refine lv_goto (tgt := 4) hx hb dX12_many_21 (by decide) ?_
  refine lv_iload_n hx hb dX12_many_4 rfl (lv_at hl 0 rfl) ?_
  refine lv_bipush (v := 12) hx hb dX12_many_5 (by decide) ?_
  refine lv_icmp_ge (tgt := 24) hx hb dX12_many_7 (by decide) (fun h9 => absurd h9 (by decide)) (fun _ => ?_)
  refine lv_pc (q := 10) rfl ?_
  refine lv_iload_n hx hb dX12_many_10 rfl (lv_at hl 1 rfl) ?_
  refine lv_iload_n hx hb dX12_many_11 rfl (lv_at hl 2 rfl) ?_
  refine lv_iload_n hx hb dX12_many_12 rfl (lv_at hl 0 rfl) ?_
  refine lv_ishr hx hb dX12_many_13 ?_
  refine lv_fixi (y := 0) (by decide) ?_
  refine lv_iconst (v := 1) hx hb dX12_many_14 (by decide) ?_
  refine lv_iand hx hb dX12_many_15 ?_
  refine lv_fixi (y := 0) (by decide) ?_
  refine lv_pc (q := 16) rfl ?_
  refine lv_iadd hx hb dX12_many_16 ?_
  refine lv_fixi (y := 0) (by decide) ?_
  refine lv_istore_n (lv' := [(1, .int 0), (2, .int 10), (0, .int 0)]) hx hb dX12_many_17 rfl hl (by decide) rfl (fun ls hl => ?_)
  refine lv_iinc (v := 11) (lv' := [(2, .int 11), (1, .int 0), (0, .int 0)]) hx hb dX12_many_18 hl (k := 1) rfl (by decide) (by decide) rfl (fun ls hl => ?_)
  refine lv_goto (tgt := 4) hx hb dX12_many_21 (by decide) ?_
  refine lv_iload_n hx hb dX12_many_4 rfl (lv_at hl 0 rfl) ?_
  refine lv_bipush (v := 12) hx hb dX12_many_5 (by decide) ?_
  refine lv_pc (q := 7) rfl ?_
  refine lv_icmp_ge (tgt := 24) hx hb dX12_many_7 (by decide) (fun h9 => absurd h9 (by decide)) (fun _ => ?_)
  refine lv_iload_n hx hb dX12_many_10 rfl (lv_at hl 1 rfl) ?_
  refine lv_iload_n hx hb dX12_many_11 rfl (lv_at hl 2 rfl) ?_
  refine lv_iload_n hx hb dX12_many_12 rfl (lv_at hl 0 rfl) ?_
  refine lv_ishr hx hb dX12_many_13 ?_
  refine lv_fixi (y := 0) (by decide) ?_
  refine lv_iconst (v := 1) hx hb dX12_many_14 (by decide) ?_
  refine lv_pc (q := 15) rfl ?_
  refine lv_iand hx hb dX12_many_15 ?_
  refine lv_fixi (y := 0) (by decide) ?_
  refine lv_iadd hx hb dX12_many_16 ?_
  refine lv_fixi (y := 0) (by decide) ?_
  refine lv_istore_n (lv' := [(1, .int 0), (2, .int 11), (0, .int 0)]) hx hb dX12_many_17 rfl hl (by decide) rfl (fun ls hl => ?_)
  refine lv_iinc (v := 12) (lv' := [(2, .int 12), (1, .int 0), (0, .int 0)]) hx hb dX12_many_18 hl (k := 1) rfl (by decide) (by decide) rfl (fun ls hl => ?_)
  refine lv_goto (tgt := 4) hx hb dX12_many_21 (by decide) ?_
  refine lv_iload_n hx hb dX12_many_4 rfl (lv_at hl 0 rfl) ?_
  refine lv_pc (q := 5) rfl ?_
  refine lv_bipush (v := 12) hx hb dX12_many_5 (by decide) ?_
  refine lv_icmp_ge (tgt := 24) hx hb dX12_many_7 (by decide) (fun _ => ?_) (fun h9 => absurd (by decide) h9)
  refine lv_iload_n hx hb dX12_many_24 rfl (lv_at hl 1 rfl) ?_
  exact uRi () B rfl (uSub hP [] rfl) (hD.sub [] rfl rfl) hS dX12_many_25
def qkX12_join_119 (ph0 : Nat) (ph1 : Nat) (pg2 : Nat) (pg3 : Nat) (pg4 : Nat) (pg5 : Nat) (pg6 : Nat) (pg7 : Nat) (pg8 : Nat) (pg9 : Nat) (pg10 : Nat) (pg11 : Nat) (pg12 : Nat) (pg13 : Nat) (pg14 : Nat) (pg15 : Nat) (pg16 : Nat) (pg17 : Nat) (pg18 : Nat) (pg19 : Nat) (pg20 : Nat) (pg21 : Nat) (pg22 : Nat) (pg23 : Nat) (pg24 : Nat) (pg25 : Nat) (pg26 : Nat) (pg27 : Nat) (pg28 : Nat) (pg29 : Nat) (pg30 : Nat) (pg31 : Nat) (pg32 : Nat) (pg33 : Nat) (pg34 : Nat) (pg35 : Nat) (pg36 : Nat) (pg37 : Nat) (pg38 : Nat) (pg39 : Nat) (pg40 : Nat) (pg41 : Nat) (pg42 : Nat) (pg43 : Nat) (pg44 : Nat) (pg45 : Nat) (pg46 : Nat) (pg47 : Nat) (pg48 : Nat) (pg49 : Nat) (pg50 : Nat) (pg51 : Nat) (pg52 : Nat) (pg53 : Nat) (pg54 : Nat) (pg55 : Nat) (pg56 : Nat) (pg57 : Nat) (pg58 : Nat) (pg59 : Nat) (pg60 : Nat) (pg61 : Nat) (pg62 : Nat) (pg63 : Nat) (pg64 : Nat) (pg65 : Nat) (pg66 : Nat) (pf67 : Nat → Int32) (px68 : Int32) (px69 : Int32) (px70 : Int32) (px71 : Int32) : Int32 → (Unit) → Prop := (fun (r : Int32) (u : Unit) => (r = (-1) ∧ ((((((px68 < 0) ∨ (¬ px68 < 0 ∧ 11 < px68) ∨ (¬ px68 < 0 ∧ ¬ 11 < px68 ∧ px69 < 0) ∨ (¬ px68 < 0 ∧ ¬ 11 < px68 ∧ ¬ px69 < 0 ∧ 1 < px69))) ∨ (¬ px68 < 0 ∧ ¬ 11 < px68 ∧ ¬ px69 < 0 ∧ ¬ 1 < px69 ∧ px70 < 0) ∨ (¬ px68 < 0 ∧ ¬ 11 < px68 ∧ ¬ px69 < 0 ∧ ¬ 1 < px69 ∧ ¬ px70 < 0 ∧ 500 < px70))) ∨ (¬ px68 < 0 ∧ ¬ 11 < px68 ∧ ¬ px69 < 0 ∧ ¬ 1 < px69 ∧ ¬ px70 < 0 ∧ ¬ 500 < px70 ∧ ¬ px71 = 1 ∧ ¬ px71 = 2))) ∨ (r = 0 ∧ (¬ px68 < 0 ∧ ¬ 11 < px68 ∧ ¬ px69 < 0 ∧ ¬ 1 < px69 ∧ ¬ px70 < 0 ∧ ¬ 500 < px70 ∧ ((px71 = 1) ∨ (¬ px71 = 1 ∧ px71 = 2)))))
def vkX12_join_119 (K : Nat → ClassId) (ph0 : Nat) (ph1 : Nat) (pg2 : Nat) (pg3 : Nat) (pg4 : Nat) (pg5 : Nat) (pg6 : Nat) (pg7 : Nat) (pg8 : Nat) (pg9 : Nat) (pg10 : Nat) (pg11 : Nat) (pg12 : Nat) (pg13 : Nat) (pg14 : Nat) (pg15 : Nat) (pg16 : Nat) (pg17 : Nat) (pg18 : Nat) (pg19 : Nat) (pg20 : Nat) (pg21 : Nat) (pg22 : Nat) (pg23 : Nat) (pg24 : Nat) (pg25 : Nat) (pg26 : Nat) (pg27 : Nat) (pg28 : Nat) (pg29 : Nat) (pg30 : Nat) (pg31 : Nat) (pg32 : Nat) (pg33 : Nat) (pg34 : Nat) (pg35 : Nat) (pg36 : Nat) (pg37 : Nat) (pg38 : Nat) (pg39 : Nat) (pg40 : Nat) (pg41 : Nat) (pg42 : Nat) (pg43 : Nat) (pg44 : Nat) (pg45 : Nat) (pg46 : Nat) (pg47 : Nat) (pg48 : Nat) (pg49 : Nat) (pg50 : Nat) (pg51 : Nat) (pg52 : Nat) (pg53 : Nat) (pg54 : Nat) (pg55 : Nat) (pg56 : Nat) (pg57 : Nat) (pg58 : Nat) (pg59 : Nat) (pg60 : Nat) (pg61 : Nat) (pg62 : Nat) (pg63 : Nat) (pg64 : Nat) (pg65 : Nat) (pg66 : Nat) (pf67 : Nat → Int32) (px68 : Int32) (px69 : Int32) (px70 : Int32) (px71 : Int32) : (Unit) → va_W := (fun (u : Unit) => [])
set_option maxHeartbeats 4000000 in
set_option maxRecDepth 100000 in
theorem kX12_join_119 (l : Launch) (D : va_G) (K : Nat → ClassId) (sz : Nat) (ph0 : Nat) (ph1 : Nat) (pg2 : Nat) (pg3 : Nat) (pg4 : Nat) (pg5 : Nat) (pg6 : Nat) (pg7 : Nat) (pg8 : Nat) (pg9 : Nat) (pg10 : Nat) (pg11 : Nat) (pg12 : Nat) (pg13 : Nat) (pg14 : Nat) (pg15 : Nat) (pg16 : Nat) (pg17 : Nat) (pg18 : Nat) (pg19 : Nat) (pg20 : Nat) (pg21 : Nat) (pg22 : Nat) (pg23 : Nat) (pg24 : Nat) (pg25 : Nat) (pg26 : Nat) (pg27 : Nat) (pg28 : Nat) (pg29 : Nat) (pg30 : Nat) (pg31 : Nat) (pg32 : Nat) (pg33 : Nat) (pg34 : Nat) (pg35 : Nat) (pg36 : Nat) (pg37 : Nat) (pg38 : Nat) (pg39 : Nat) (pg40 : Nat) (pg41 : Nat) (pg42 : Nat) (pg43 : Nat) (pg44 : Nat) (pg45 : Nat) (pg46 : Nat) (pg47 : Nat) (pg48 : Nat) (pg49 : Nat) (pg50 : Nat) (pg51 : Nat) (pg52 : Nat) (pg53 : Nat) (pg54 : Nat) (pg55 : Nat) (pg56 : Nat) (pg57 : Nat) (pg58 : Nat) (pg59 : Nat) (pg60 : Nat) (pg61 : Nat) (pg62 : Nat) (pg63 : Nat) (pg64 : Nat) (pg65 : Nat) (pg66 : Nat) (pf67 : Nat → Int32) (px68 : Int32) (px69 : Int32) (px70 : Int32) (px71 : Int32) : uMi l yX12_join cX12_join 7 (some .int) { frames := 2, cells := 0, slots := 0, locals := 51 } [.ref ph0, .int px68, .int px69, .int px70, .int px71] D K [(ph0, .inr (12, [.int 0, .int 4, .int 4, .ref pg2, .ref pg3, .ref pg4, .ref pg5, .int 0, .ref pg6, .ref pg7, .int 0, .ref pg8, .ref pg9, .ref pg10, .ref pg11, .ref pg12, .ref pg13, .ref pg14, .int 0, .ref pg15, .ref pg16, .ref pg17, .ref pg18, .ref pg19, .ref pg20, .int 0, .ref pg21, .int 0, .int 0, .int 0, .ref ph1, .int 0, .int 0, .ref pg22, .int 0, .ref pg23, .ref pg24, .ref pg25, .ref pg26, .ref pg27, .ref pg28, .ref pg29, .ref pg30, .ref pg31, .ref pg32, .ref pg33, .ref pg34, .ref pg35, .ref pg36, .ref pg37, .ref pg38, .ref pg39, .ref pg40, .ref pg41, .ref pg42, .ref pg43, .ref pg44, .ref pg45, .int 0, .int 0, .int 0, .int 0, .int 0, .long 0, .int 0, .int 0, .int 0, .int 0, .int 0, .int (-1), .int 0, .ref pg46, .ref pg47, .ref pg48, .ref pg49, .ref pg50, .int 0, .int 0, .ref pg51, .ref pg52, .ref pg53, .ref pg54, .ref pg55, .ref pg56, .ref pg57, .ref pg58, .int 0, .int 0, .int 0, .int 0, .ref pg59, .ref pg60, .int 0, .ref pg61, .ref pg62, .ref pg63, .ref pg64, .ref pg65, .ref pg66])), (ph1, .inl (K 0, 4096, .inl pf67))] sz (qkX12_join_119 ph0 ph1 pg2 pg3 pg4 pg5 pg6 pg7 pg8 pg9 pg10 pg11 pg12 pg13 pg14 pg15 pg16 pg17 pg18 pg19 pg20 pg21 pg22 pg23 pg24 pg25 pg26 pg27 pg28 pg29 pg30 pg31 pg32 pg33 pg34 pg35 pg36 pg37 pg38 pg39 pg40 pg41 pg42 pg43 pg44 pg45 pg46 pg47 pg48 pg49 pg50 pg51 pg52 pg53 pg54 pg55 pg56 pg57 pg58 pg59 pg60 pg61 pg62 pg63 pg64 pg65 pg66 pf67 px68 px69 px70 px71) (vkX12_join_119 K ph0 ph1 pg2 pg3 pg4 pg5 pg6 pg7 pg8 pg9 pg10 pg11 pg12 pg13 pg14 pg15 pg16 pg17 pg18 pg19 pg20 pg21 pg22 pg23 pg24 pg25 pg26 pg27 pg28 pg29 pg30 pg31 pg32 pg33 pg34 pg35 pg36 pg37 pg38 pg39 pg40 pg41 pg42 pg43 pg44 pg45 pg46 pg47 pg48 pg49 pg50 pg51 pg52 pg53 pg54 pg55 pg56 pg57 pg58 pg59 pg60 pg61 pg62 pg63 pg64 pg65 pg66 pf67 px68 px69 px70 px71) := by
  refine uMet (Qc := uQi D (qkX12_join_119 ph0 ph1 pg2 pg3 pg4 pg5 pg6 pg7 pg8 pg9 pg10 pg11 pg12 pg13 pg14 pg15 pg16 pg17 pg18 pg19 pg20 pg21 pg22 pg23 pg24 pg25 pg26 pg27 pg28 pg29 pg30 pg31 pg32 pg33 pg34 pg35 pg36 pg37 pg38 pg39 pg40 pg41 pg42 pg43 pg44 pg45 pg46 pg47 pg48 pg49 pg50 pg51 pg52 pg53 pg54 pg55 pg56 pg57 pg58 pg59 pg60 pg61 pg62 pg63 pg64 pg65 pg66 pf67 px68 px69 px70 px71) (vkX12_join_119 K ph0 ph1 pg2 pg3 pg4 pg5 pg6 pg7 pg8 pg9 pg10 pg11 pg12 pg13 pg14 pg15 pg16 pg17 pg18 pg19 pg20 pg21 pg22 pg23 pg24 pg25 pg26 pg27 pg28 pg29 pg30 pg31 pg32 pg33 pg34 pg35 pg36 pg37 pg38 pg39 pg40 pg41 pg42 pg43 pg44 pg45 pg46 pg47 pg48 pg49 pg50 pg51 pg52 pg53 pg54 pg55 pg56 pg57 pg58 pg59 pg60 pg61 pg62 pg63 pg64 pg65 pg66 pf67 px68 px69 px70 px71)) (ret := (some .int)) (by decide) (Nat.le_of_ble_eq_true rfl) ?_
  intro p e s m below meth c A ls hAe hsz B hP hD hS hl
  have hx := B.1
  have hb := B.2.1
  have hl : lv_has ls 7 [(0, .ref ph0), (1, .int px68), (2, .int px69), (3, .int px70), (4, .int px71)] := hl
  refine lv_aload_n hx hb dX12_join_0 rfl (lv_at hl 0 rfl) ?_
  refine lv_iconst (v := 0) hx hb dX12_join_1 (by decide) ?_
  refine uPut (ci := 12) (C := RX12) (T := TX12) (N := 99) (ws' := [(ph0, .inr (12, [.int 0, .int 4, .int 4, .ref pg2, .ref pg3, .ref pg4, .ref pg5, .int 0, .ref pg6, .ref pg7, .int 0, .ref pg8, .ref pg9, .ref pg10, .ref pg11, .ref pg12, .ref pg13, .ref pg14, .int 0, .ref pg15, .ref pg16, .ref pg17, .ref pg18, .ref pg19, .ref pg20, .int 0, .ref pg21, .int 0, .int 0, .int 0, .ref ph1, .int 0, .int 0, .ref pg22, .int 0, .ref pg23, .ref pg24, .ref pg25, .ref pg26, .ref pg27, .ref pg28, .ref pg29, .ref pg30, .ref pg31, .ref pg32, .ref pg33, .ref pg34, .ref pg35, .ref pg36, .ref pg37, .ref pg38, .ref pg39, .ref pg40, .ref pg41, .ref pg42, .ref pg43, .ref pg44, .ref pg45, .int 0, .int 0, .int 0, .int 0, .int 0, .long 0, .int 0, .int 0, .int 0, .int 0, .int 0, .int (-1), .int 0, .ref pg46, .ref pg47, .ref pg48, .ref pg49, .ref pg50, .int 0, .int 0, .ref pg51, .ref pg52, .ref pg53, .ref pg54, .ref pg55, .ref pg56, .ref pg57, .ref pg58, .int 0, .int 0, .int 0, .int 0, .ref pg59, .ref pg60, .int 0, .ref pg61, .ref pg62, .ref pg63, .ref pg64, .ref pg65, .ref pg66])), (ph1, .inl (K 0, 4096, .inl pf67))]) B inlX12 tyX12_ok nmX12 hP hD hS 0 rfl rfl 0 rfl mfl_X12_224 rfl rfl rfl rfl rfl rfl dX12_join_2 (fun H locs hP hD hS => ?_)
  refine lv_iload_n hx hb dX12_join_5 rfl (lv_at hl 1 rfl) ?_
  refine lv_iload_n hx hb dX12_join_6 rfl (lv_at hl 2 rfl) ?_
  refine lv_pc (q := 7) rfl ?_
  refine lv_iload_n hx hb dX12_join_7 rfl (lv_at hl 3 rfl) ?_
  refine uSi (As := [.int px68, .int px69, .int px70]) (rest := []) (wr := [(ph0, .inr (12, [.int 0, .int 4, .int 4, .ref pg2, .ref pg3, .ref pg4, .ref pg5, .int 0, .ref pg6, .ref pg7, .int 0, .ref pg8, .ref pg9, .ref pg10, .ref pg11, .ref pg12, .ref pg13, .ref pg14, .int 0, .ref pg15, .ref pg16, .ref pg17, .ref pg18, .ref pg19, .ref pg20, .int 0, .ref pg21, .int 0, .int 0, .int 0, .ref ph1, .int 0, .int 0, .ref pg22, .int 0, .ref pg23, .ref pg24, .ref pg25, .ref pg26, .ref pg27, .ref pg28, .ref pg29, .ref pg30, .ref pg31, .ref pg32, .ref pg33, .ref pg34, .ref pg35, .ref pg36, .ref pg37, .ref pg38, .ref pg39, .ref pg40, .ref pg41, .ref pg42, .ref pg43, .ref pg44, .ref pg45, .int 0, .int 0, .int 0, .int 0, .int 0, .long 0, .int 0, .int 0, .int 0, .int 0, .int 0, .int (-1), .int 0, .ref pg46, .ref pg47, .ref pg48, .ref pg49, .ref pg50, .int 0, .int 0, .ref pg51, .ref pg52, .ref pg53, .ref pg54, .ref pg55, .ref pg56, .ref pg57, .ref pg58, .int 0, .int 0, .int 0, .int 0, .ref pg59, .ref pg60, .int 0, .ref pg61, .ref pg62, .ref pg63, .ref pg64, .ref pg65, .ref pg66])), (ph1, .inl (K 0, 4096, .inl pf67))]) [] B hl.1 hP hD hS [] [0, 1] rfl rfl rfl (kX12_isAsked_100 l D K _ px68 px69 px70) wd_X12_isAsked mml_X12_347 rfl rfl ⟨Nat.le_of_ble_eq_true rfl, Nat.le_of_ble_eq_true rfl⟩ (Nat.le_of_ble_eq_true rfl) ⟨Nat.le_of_ble_eq_true rfl, Nat.le_of_ble_eq_true rfl⟩ dX12_join_8 (fun r1 u H locs hw hP hD hS => ?_)
  try dsimp only at hw
  rcases hw with ⟨rfl, w2⟩ | ⟨rfl, ⟨w3, w4, w5, w6, w7, w8⟩⟩
  · have hP : va_P D vwCl [(ph0, .inr (12, [.int 0, .int 4, .int 4, .ref pg2, .ref pg3, .ref pg4, .ref pg5, .int 0, .ref pg6, .ref pg7, .int 0, .ref pg8, .ref pg9, .ref pg10, .ref pg11, .ref pg12, .ref pg13, .ref pg14, .int 0, .ref pg15, .ref pg16, .ref pg17, .ref pg18, .ref pg19, .ref pg20, .int 0, .ref pg21, .int 0, .int 0, .int 0, .ref ph1, .int 0, .int 0, .ref pg22, .int 0, .ref pg23, .ref pg24, .ref pg25, .ref pg26, .ref pg27, .ref pg28, .ref pg29, .ref pg30, .ref pg31, .ref pg32, .ref pg33, .ref pg34, .ref pg35, .ref pg36, .ref pg37, .ref pg38, .ref pg39, .ref pg40, .ref pg41, .ref pg42, .ref pg43, .ref pg44, .ref pg45, .int 0, .int 0, .int 0, .int 0, .int 0, .long 0, .int 0, .int 0, .int 0, .int 0, .int 0, .int (-1), .int 0, .ref pg46, .ref pg47, .ref pg48, .ref pg49, .ref pg50, .int 0, .int 0, .ref pg51, .ref pg52, .ref pg53, .ref pg54, .ref pg55, .ref pg56, .ref pg57, .ref pg58, .int 0, .int 0, .int 0, .int 0, .ref pg59, .ref pg60, .int 0, .ref pg61, .ref pg62, .ref pg63, .ref pg64, .ref pg65, .ref pg66])), (ph1, .inl (K 0, 4096, .inl pf67))] H := hP
    have hD : va_D A [(ph0, .inr (12, [.int 0, .int 4, .int 4, .ref pg2, .ref pg3, .ref pg4, .ref pg5, .int 0, .ref pg6, .ref pg7, .int 0, .ref pg8, .ref pg9, .ref pg10, .ref pg11, .ref pg12, .ref pg13, .ref pg14, .int 0, .ref pg15, .ref pg16, .ref pg17, .ref pg18, .ref pg19, .ref pg20, .int 0, .ref pg21, .int 0, .int 0, .int 0, .ref ph1, .int 0, .int 0, .ref pg22, .int 0, .ref pg23, .ref pg24, .ref pg25, .ref pg26, .ref pg27, .ref pg28, .ref pg29, .ref pg30, .ref pg31, .ref pg32, .ref pg33, .ref pg34, .ref pg35, .ref pg36, .ref pg37, .ref pg38, .ref pg39, .ref pg40, .ref pg41, .ref pg42, .ref pg43, .ref pg44, .ref pg45, .int 0, .int 0, .int 0, .int 0, .int 0, .long 0, .int 0, .int 0, .int 0, .int 0, .int 0, .int (-1), .int 0, .ref pg46, .ref pg47, .ref pg48, .ref pg49, .ref pg50, .int 0, .int 0, .ref pg51, .ref pg52, .ref pg53, .ref pg54, .ref pg55, .ref pg56, .ref pg57, .ref pg58, .int 0, .int 0, .int 0, .int 0, .ref pg59, .ref pg60, .int 0, .ref pg61, .ref pg62, .ref pg63, .ref pg64, .ref pg65, .ref pg66])), (ph1, .inl (K 0, 4096, .inl pf67))] := hD
    refine lv_if_eq (tgt := 22) hx hb dX12_join_11 (by decide) (fun _ => ?_) (fun h9 => absurd (by decide) h9)
    refine lv_iconst (v := (-1)) hx hb dX12_join_22 (by decide) ?_
    exact uRi () B (Or.inl ⟨rfl, Or.inl w2⟩) (uSub hP [] rfl) (hD.sub [] rfl rfl) hS dX12_join_23
  have hP : va_P D vwCl [(ph0, .inr (12, [.int 0, .int 4, .int 4, .ref pg2, .ref pg3, .ref pg4, .ref pg5, .int 0, .ref pg6, .ref pg7, .int 0, .ref pg8, .ref pg9, .ref pg10, .ref pg11, .ref pg12, .ref pg13, .ref pg14, .int 0, .ref pg15, .ref pg16, .ref pg17, .ref pg18, .ref pg19, .ref pg20, .int 0, .ref pg21, .int 0, .int 0, .int 0, .ref ph1, .int 0, .int 0, .ref pg22, .int 0, .ref pg23, .ref pg24, .ref pg25, .ref pg26, .ref pg27, .ref pg28, .ref pg29, .ref pg30, .ref pg31, .ref pg32, .ref pg33, .ref pg34, .ref pg35, .ref pg36, .ref pg37, .ref pg38, .ref pg39, .ref pg40, .ref pg41, .ref pg42, .ref pg43, .ref pg44, .ref pg45, .int 0, .int 0, .int 0, .int 0, .int 0, .long 0, .int 0, .int 0, .int 0, .int 0, .int 0, .int (-1), .int 0, .ref pg46, .ref pg47, .ref pg48, .ref pg49, .ref pg50, .int 0, .int 0, .ref pg51, .ref pg52, .ref pg53, .ref pg54, .ref pg55, .ref pg56, .ref pg57, .ref pg58, .int 0, .int 0, .int 0, .int 0, .ref pg59, .ref pg60, .int 0, .ref pg61, .ref pg62, .ref pg63, .ref pg64, .ref pg65, .ref pg66])), (ph1, .inl (K 0, 4096, .inl pf67))] H := hP
  have hD : va_D A [(ph0, .inr (12, [.int 0, .int 4, .int 4, .ref pg2, .ref pg3, .ref pg4, .ref pg5, .int 0, .ref pg6, .ref pg7, .int 0, .ref pg8, .ref pg9, .ref pg10, .ref pg11, .ref pg12, .ref pg13, .ref pg14, .int 0, .ref pg15, .ref pg16, .ref pg17, .ref pg18, .ref pg19, .ref pg20, .int 0, .ref pg21, .int 0, .int 0, .int 0, .ref ph1, .int 0, .int 0, .ref pg22, .int 0, .ref pg23, .ref pg24, .ref pg25, .ref pg26, .ref pg27, .ref pg28, .ref pg29, .ref pg30, .ref pg31, .ref pg32, .ref pg33, .ref pg34, .ref pg35, .ref pg36, .ref pg37, .ref pg38, .ref pg39, .ref pg40, .ref pg41, .ref pg42, .ref pg43, .ref pg44, .ref pg45, .int 0, .int 0, .int 0, .int 0, .int 0, .long 0, .int 0, .int 0, .int 0, .int 0, .int 0, .int (-1), .int 0, .ref pg46, .ref pg47, .ref pg48, .ref pg49, .ref pg50, .int 0, .int 0, .ref pg51, .ref pg52, .ref pg53, .ref pg54, .ref pg55, .ref pg56, .ref pg57, .ref pg58, .int 0, .int 0, .int 0, .int 0, .ref pg59, .ref pg60, .int 0, .ref pg61, .ref pg62, .ref pg63, .ref pg64, .ref pg65, .ref pg66])), (ph1, .inl (K 0, 4096, .inl pf67))] := hD
  refine lv_if_eq (tgt := 22) hx hb dX12_join_11 (by decide) (fun h9 => absurd h9 (by decide)) (fun _ => ?_)
  refine lv_iload hx hb dX12_join_14 (lv_at hl 4 rfl) ?_
  refine uSi (As := [.int px71]) (rest := []) (wr := [(ph0, .inr (12, [.int 0, .int 4, .int 4, .ref pg2, .ref pg3, .ref pg4, .ref pg5, .int 0, .ref pg6, .ref pg7, .int 0, .ref pg8, .ref pg9, .ref pg10, .ref pg11, .ref pg12, .ref pg13, .ref pg14, .int 0, .ref pg15, .ref pg16, .ref pg17, .ref pg18, .ref pg19, .ref pg20, .int 0, .ref pg21, .int 0, .int 0, .int 0, .ref ph1, .int 0, .int 0, .ref pg22, .int 0, .ref pg23, .ref pg24, .ref pg25, .ref pg26, .ref pg27, .ref pg28, .ref pg29, .ref pg30, .ref pg31, .ref pg32, .ref pg33, .ref pg34, .ref pg35, .ref pg36, .ref pg37, .ref pg38, .ref pg39, .ref pg40, .ref pg41, .ref pg42, .ref pg43, .ref pg44, .ref pg45, .int 0, .int 0, .int 0, .int 0, .int 0, .long 0, .int 0, .int 0, .int 0, .int 0, .int 0, .int (-1), .int 0, .ref pg46, .ref pg47, .ref pg48, .ref pg49, .ref pg50, .int 0, .int 0, .ref pg51, .ref pg52, .ref pg53, .ref pg54, .ref pg55, .ref pg56, .ref pg57, .ref pg58, .int 0, .int 0, .int 0, .int 0, .ref pg59, .ref pg60, .int 0, .ref pg61, .ref pg62, .ref pg63, .ref pg64, .ref pg65, .ref pg66])), (ph1, .inl (K 0, 4096, .inl pf67))]) [] B hl.1 hP hD hS [] [0, 1] rfl rfl rfl (kX12_isLevel_101 l D K _ px71) wd_X12_isLevel mml_X12_350 rfl rfl ⟨Nat.le_of_ble_eq_true rfl, Nat.le_of_ble_eq_true rfl⟩ (Nat.le_of_ble_eq_true rfl) ⟨Nat.le_of_ble_eq_true rfl, Nat.le_of_ble_eq_true rfl⟩ dX12_join_16 (fun r9 u H locs hw hP hD hS => ?_)
  try dsimp only at hw
  rcases hw with ⟨rfl, w10⟩ | ⟨rfl, ⟨w11, w12⟩⟩
  · have hP : va_P D vwCl [(ph0, .inr (12, [.int 0, .int 4, .int 4, .ref pg2, .ref pg3, .ref pg4, .ref pg5, .int 0, .ref pg6, .ref pg7, .int 0, .ref pg8, .ref pg9, .ref pg10, .ref pg11, .ref pg12, .ref pg13, .ref pg14, .int 0, .ref pg15, .ref pg16, .ref pg17, .ref pg18, .ref pg19, .ref pg20, .int 0, .ref pg21, .int 0, .int 0, .int 0, .ref ph1, .int 0, .int 0, .ref pg22, .int 0, .ref pg23, .ref pg24, .ref pg25, .ref pg26, .ref pg27, .ref pg28, .ref pg29, .ref pg30, .ref pg31, .ref pg32, .ref pg33, .ref pg34, .ref pg35, .ref pg36, .ref pg37, .ref pg38, .ref pg39, .ref pg40, .ref pg41, .ref pg42, .ref pg43, .ref pg44, .ref pg45, .int 0, .int 0, .int 0, .int 0, .int 0, .long 0, .int 0, .int 0, .int 0, .int 0, .int 0, .int (-1), .int 0, .ref pg46, .ref pg47, .ref pg48, .ref pg49, .ref pg50, .int 0, .int 0, .ref pg51, .ref pg52, .ref pg53, .ref pg54, .ref pg55, .ref pg56, .ref pg57, .ref pg58, .int 0, .int 0, .int 0, .int 0, .ref pg59, .ref pg60, .int 0, .ref pg61, .ref pg62, .ref pg63, .ref pg64, .ref pg65, .ref pg66])), (ph1, .inl (K 0, 4096, .inl pf67))] H := hP
    have hD : va_D A [(ph0, .inr (12, [.int 0, .int 4, .int 4, .ref pg2, .ref pg3, .ref pg4, .ref pg5, .int 0, .ref pg6, .ref pg7, .int 0, .ref pg8, .ref pg9, .ref pg10, .ref pg11, .ref pg12, .ref pg13, .ref pg14, .int 0, .ref pg15, .ref pg16, .ref pg17, .ref pg18, .ref pg19, .ref pg20, .int 0, .ref pg21, .int 0, .int 0, .int 0, .ref ph1, .int 0, .int 0, .ref pg22, .int 0, .ref pg23, .ref pg24, .ref pg25, .ref pg26, .ref pg27, .ref pg28, .ref pg29, .ref pg30, .ref pg31, .ref pg32, .ref pg33, .ref pg34, .ref pg35, .ref pg36, .ref pg37, .ref pg38, .ref pg39, .ref pg40, .ref pg41, .ref pg42, .ref pg43, .ref pg44, .ref pg45, .int 0, .int 0, .int 0, .int 0, .int 0, .long 0, .int 0, .int 0, .int 0, .int 0, .int 0, .int (-1), .int 0, .ref pg46, .ref pg47, .ref pg48, .ref pg49, .ref pg50, .int 0, .int 0, .ref pg51, .ref pg52, .ref pg53, .ref pg54, .ref pg55, .ref pg56, .ref pg57, .ref pg58, .int 0, .int 0, .int 0, .int 0, .ref pg59, .ref pg60, .int 0, .ref pg61, .ref pg62, .ref pg63, .ref pg64, .ref pg65, .ref pg66])), (ph1, .inl (K 0, 4096, .inl pf67))] := hD
    refine lv_if_ne (tgt := 24) hx hb dX12_join_19 (by decide) (fun _ => ?_) (fun h9 => absurd h9 (by decide))
    refine lv_pc (q := 24) rfl ?_
    refine lv_aload_n hx hb dX12_join_24 rfl (lv_at hl 0 rfl) ?_
    refine lv_iload_n hx hb dX12_join_25 rfl (lv_at hl 1 rfl) ?_
    refine lv_iload_n hx hb dX12_join_26 rfl (lv_at hl 2 rfl) ?_
    refine lv_iload_n hx hb dX12_join_27 rfl (lv_at hl 3 rfl) ?_
    refine lv_iload hx hb dX12_join_28 (lv_at hl 4 rfl) ?_
    refine uVv (As := [.int px68, .int px69, .int px70, .int px71]) (rest := []) (wr := [(ph1, .inl (K 0, 4096, .inl pf67))]) [(ph0, .inr (12, [.int 0, .int 4, .int 4, .ref pg2, .ref pg3, .ref pg4, .ref pg5, .int 0, .ref pg6, .ref pg7, .int 0, .ref pg8, .ref pg9, .ref pg10, .ref pg11, .ref pg12, .ref pg13, .ref pg14, .int 0, .ref pg15, .ref pg16, .ref pg17, .ref pg18, .ref pg19, .ref pg20, .int 0, .ref pg21, .int 0, .int 0, .int 0, .ref ph1, .int 0, .int 0, .ref pg22, .int 0, .ref pg23, .ref pg24, .ref pg25, .ref pg26, .ref pg27, .ref pg28, .ref pg29, .ref pg30, .ref pg31, .ref pg32, .ref pg33, .ref pg34, .ref pg35, .ref pg36, .ref pg37, .ref pg38, .ref pg39, .ref pg40, .ref pg41, .ref pg42, .ref pg43, .ref pg44, .ref pg45, .int 0, .int 0, .int 0, .int 0, .int 0, .long 0, .int 0, .int 0, .int 0, .int 0, .int 0, .int (-1), .int 0, .ref pg46, .ref pg47, .ref pg48, .ref pg49, .ref pg50, .int 0, .int 0, .ref pg51, .ref pg52, .ref pg53, .ref pg54, .ref pg55, .ref pg56, .ref pg57, .ref pg58, .int 0, .int 0, .int 0, .int 0, .ref pg59, .ref pg60, .int 0, .ref pg61, .ref pg62, .ref pg63, .ref pg64, .ref pg65, .ref pg66]))] B hl.1 hP hD hS [0] [1] rfl rfl rfl (kX12_lines_102 l D K _ ph0 pg2 pg3 pg4 pg5 pg6 pg7 pg8 pg9 pg10 pg11 pg12 pg13 pg14 pg15 pg16 pg17 pg18 pg19 pg20 pg21 ph1 pg22 pg23 pg24 pg25 pg26 pg27 pg28 pg29 pg30 pg31 pg32 pg33 pg34 pg35 pg36 pg37 pg38 pg39 pg40 pg41 pg42 pg43 pg44 pg45 pg46 pg47 pg48 pg49 pg50 pg51 pg52 pg53 pg54 pg55 pg56 pg57 pg58 pg59 pg60 pg61 pg62 pg63 pg64 pg65 pg66 px68 px69 px70 px71) wd_X12_lines mml_X12_353 rfl rfl rfl rfl ⟨Nat.le_of_ble_eq_true rfl, Nat.le_of_ble_eq_true rfl⟩ (Nat.le_of_ble_eq_true rfl) ⟨Nat.le_of_ble_eq_true rfl, Nat.le_of_ble_eq_true rfl⟩ dX12_join_30 (fun u H locs hw hP hD hS => ?_)
    try dsimp only at hw
    have hP : va_P D vwCl [(ph1, .inl (K 0, 4096, .inl pf67)), (ph0, .inr (12, [.int 0, .int 4, .int 4, .ref pg2, .ref pg3, .ref pg4, .ref pg5, .int 0, .ref pg6, .ref pg7, .int 0, .ref pg8, .ref pg9, .ref pg10, .ref pg11, .ref pg12, .ref pg13, .ref pg14, .int 0, .ref pg15, .ref pg16, .ref pg17, .ref pg18, .ref pg19, .ref pg20, .int 0, .ref pg21, .int 0, .int 0, .int 0, .ref ph1, .int 0, .int 0, .ref pg22, .int 0, .ref pg23, .ref pg24, .ref pg25, .ref pg26, .ref pg27, .ref pg28, .ref pg29, .ref pg30, .ref pg31, .ref pg32, .ref pg33, .ref pg34, .ref pg35, .ref pg36, .ref pg37, .ref pg38, .ref pg39, .ref pg40, .ref pg41, .ref pg42, .ref pg43, .ref pg44, .ref pg45, .int 0, .int 0, .int 0, .int 0, .int 0, .long 0, .int 0, .int 0, .int 0, .int 0, .int 0, .int (-1), .int 0, .ref pg46, .ref pg47, .ref pg48, .ref pg49, .ref pg50, .int 0, .int 0, .ref pg51, .ref pg52, .ref pg53, .ref pg54, .ref pg55, .ref pg56, .ref pg57, .ref pg58, .int 0, .int 0, .int 0, .int 0, .ref pg59, .ref pg60, .int 0, .ref pg61, .ref pg62, .ref pg63, .ref pg64, .ref pg65, .ref pg66]))] H := hP
    have hD : va_D A [(ph1, .inl (K 0, 4096, .inl pf67)), (ph0, .inr (12, [.int 0, .int 4, .int 4, .ref pg2, .ref pg3, .ref pg4, .ref pg5, .int 0, .ref pg6, .ref pg7, .int 0, .ref pg8, .ref pg9, .ref pg10, .ref pg11, .ref pg12, .ref pg13, .ref pg14, .int 0, .ref pg15, .ref pg16, .ref pg17, .ref pg18, .ref pg19, .ref pg20, .int 0, .ref pg21, .int 0, .int 0, .int 0, .ref ph1, .int 0, .int 0, .ref pg22, .int 0, .ref pg23, .ref pg24, .ref pg25, .ref pg26, .ref pg27, .ref pg28, .ref pg29, .ref pg30, .ref pg31, .ref pg32, .ref pg33, .ref pg34, .ref pg35, .ref pg36, .ref pg37, .ref pg38, .ref pg39, .ref pg40, .ref pg41, .ref pg42, .ref pg43, .ref pg44, .ref pg45, .int 0, .int 0, .int 0, .int 0, .int 0, .long 0, .int 0, .int 0, .int 0, .int 0, .int 0, .int (-1), .int 0, .ref pg46, .ref pg47, .ref pg48, .ref pg49, .ref pg50, .int 0, .int 0, .ref pg51, .ref pg52, .ref pg53, .ref pg54, .ref pg55, .ref pg56, .ref pg57, .ref pg58, .int 0, .int 0, .int 0, .int 0, .ref pg59, .ref pg60, .int 0, .ref pg61, .ref pg62, .ref pg63, .ref pg64, .ref pg65, .ref pg66]))] := hD
    refine lv_pc (q := 33) rfl ?_
    refine lv_iconst (v := (-1)) hx hb dX12_join_33 (by decide) ?_
    refine lv_istore (lv' := [(5, .int (-1)), (0, .ref ph0), (1, .int px68), (2, .int px69), (3, .int px70), (4, .int px71)]) hx hb dX12_join_34 hl (by decide) rfl (fun ls hl => ?_)
    refine lv_iconst (v := 0) hx hb dX12_join_36 (by decide) ?_
    refine lv_istore (lv' := [(6, .int 0), (5, .int (-1)), (0, .ref ph0), (1, .int px68), (2, .int px69), (3, .int px70), (4, .int px71)]) hx hb dX12_join_37 hl (by decide) rfl (fun ls hl => ?_)
    refine lv_iload hx hb dX12_join_39 (lv_at hl 0 rfl) ?_
    refine lv_iconst (v := 1) hx hb dX12_join_41 (by decide) ?_
    refine lv_pc (q := 42) rfl ?_
    refine lv_aload_n hx hb dX12_join_42 rfl (lv_at hl 2 rfl) ?_
    refine uGet (ci := 12) (C := RX12) (T := TX12) (N := 99) (v := .int 0) B inlX12 hP 1 rfl rfl 10 rfl mfl_X12_227 rfl rfl dX12_join_43 ?_
    refine lv_ishl hx hb dX12_join_46 ?_
    refine lv_fixi (y := 1) (by decide) ?_
    refine lv_icmp_ge (tgt := 152) hx hb dX12_join_47 (by decide) (fun h9 => absurd h9 (by decide)) (fun _ => ?_)
    refine lv_iload hx hb dX12_join_50 (lv_at hl 0 rfl) ?_
    refine lv_aload_n hx hb dX12_join_52 rfl (lv_at hl 2 rfl) ?_
    refine lv_pc (q := 53) rfl ?_
    refine uGet (ci := 12) (C := RX12) (T := TX12) (N := 99) (v := .int 0) B inlX12 hP 1 rfl rfl 28 rfl mfl_X12_338 rfl rfl dX12_join_53 ?_
    refine lv_iconst (v := (-1)) hx hb dX12_join_56 (by decide) ?_
    refine lv_ixor hx hb dX12_join_57 ?_
    refine lv_fixi (y := (-1)) (by decide) ?_
    refine lv_iand hx hb dX12_join_58 ?_
    refine lv_fixi (y := 0) (by decide) ?_
    refine lv_if_ne (tgt := 146) hx hb dX12_join_59 (by decide) (fun h9 => absurd (by decide) h9) (fun _ => ?_)
    refine lv_iload hx hb dX12_join_62 (lv_at hl 1 rfl) ?_
    refine lv_pc (q := 64) rfl ?_
    refine lv_iconst (v := (-1)) hx hb dX12_join_64 (by decide) ?_
    refine lv_icmp_eq (tgt := 78) hx hb dX12_join_65 (by decide) (fun _ => ?_) (fun h9 => absurd (by decide) h9)
    refine lv_aload_n hx hb dX12_join_78 rfl (lv_at hl 2 rfl) ?_
    refine uGet (ci := 12) (C := RX12) (T := TX12) (N := 99) (v := .int 0) B inlX12 hP 1 rfl rfl 27 rfl mfl_X12_335 rfl rfl dX12_join_79 ?_
    refine lv_if_eq (tgt := 97) hx hb dX12_join_82 (by decide) (fun _ => ?_) (fun h9 => absurd (by decide) h9)
    refine lv_iload hx hb dX12_join_97 (lv_at hl 1 rfl) ?_
    refine lv_pc (q := 99) rfl ?_
    refine lv_iconst (v := (-1)) hx hb dX12_join_99 (by decide) ?_
    refine lv_icmp_eq (tgt := 113) hx hb dX12_join_100 (by decide) (fun _ => ?_) (fun h9 => absurd (by decide) h9)
    refine lv_aload_n hx hb dX12_join_113 rfl (lv_at hl 2 rfl) ?_
    refine lv_iconst (v := 0) hx hb dX12_join_114 (by decide) ?_
    refine uPut (ci := 12) (C := RX12) (T := TX12) (N := 99) (ws' := [(ph1, .inl (K 0, 4096, .inl pf67)), (ph0, .inr (12, [.int 0, .int 4, .int 4, .ref pg2, .ref pg3, .ref pg4, .ref pg5, .int 0, .ref pg6, .ref pg7, .int 0, .ref pg8, .ref pg9, .ref pg10, .ref pg11, .ref pg12, .ref pg13, .ref pg14, .int 0, .ref pg15, .ref pg16, .ref pg17, .ref pg18, .ref pg19, .ref pg20, .int 0, .ref pg21, .int 0, .int 0, .int 0, .ref ph1, .int 0, .int 0, .ref pg22, .int 0, .ref pg23, .ref pg24, .ref pg25, .ref pg26, .ref pg27, .ref pg28, .ref pg29, .ref pg30, .ref pg31, .ref pg32, .ref pg33, .ref pg34, .ref pg35, .ref pg36, .ref pg37, .ref pg38, .ref pg39, .ref pg40, .ref pg41, .ref pg42, .ref pg43, .ref pg44, .ref pg45, .int 0, .int 0, .int 0, .int 0, .int 0, .long 0, .int 0, .int 0, .int 0, .int 0, .int 0, .int (-1), .int 0, .ref pg46, .ref pg47, .ref pg48, .ref pg49, .ref pg50, .int 0, .int 0, .ref pg51, .ref pg52, .ref pg53, .ref pg54, .ref pg55, .ref pg56, .ref pg57, .ref pg58, .int 0, .int 0, .int 0, .int 0, .ref pg59, .ref pg60, .int 0, .ref pg61, .ref pg62, .ref pg63, .ref pg64, .ref pg65, .ref pg66]))]) B inlX12 tyX12_ok nmX12 hP hD hS 1 rfl rfl 31 rfl mfl_X12_366 rfl rfl rfl rfl rfl rfl dX12_join_115 (fun H locs hP hD hS => ?_)
    refine lv_iload hx hb dX12_join_118 (lv_at hl 0 rfl) ?_
    refine lv_pc (q := 120) rfl ?_
    refine uSi (As := [.int 0]) (rest := []) (wr := [(ph1, .inl (K 0, 4096, .inl pf67)), (ph0, .inr (12, [.int 0, .int 4, .int 4, .ref pg2, .ref pg3, .ref pg4, .ref pg5, .int 0, .ref pg6, .ref pg7, .int 0, .ref pg8, .ref pg9, .ref pg10, .ref pg11, .ref pg12, .ref pg13, .ref pg14, .int 0, .ref pg15, .ref pg16, .ref pg17, .ref pg18, .ref pg19, .ref pg20, .int 0, .ref pg21, .int 0, .int 0, .int 0, .ref ph1, .int 0, .int 0, .ref pg22, .int 0, .ref pg23, .ref pg24, .ref pg25, .ref pg26, .ref pg27, .ref pg28, .ref pg29, .ref pg30, .ref pg31, .ref pg32, .ref pg33, .ref pg34, .ref pg35, .ref pg36, .ref pg37, .ref pg38, .ref pg39, .ref pg40, .ref pg41, .ref pg42, .ref pg43, .ref pg44, .ref pg45, .int 0, .int 0, .int 0, .int 0, .int 0, .long 0, .int 0, .int 0, .int 0, .int 0, .int 0, .int (-1), .int 0, .ref pg46, .ref pg47, .ref pg48, .ref pg49, .ref pg50, .int 0, .int 0, .ref pg51, .ref pg52, .ref pg53, .ref pg54, .ref pg55, .ref pg56, .ref pg57, .ref pg58, .int 0, .int 0, .int 0, .int 0, .ref pg59, .ref pg60, .int 0, .ref pg61, .ref pg62, .ref pg63, .ref pg64, .ref pg65, .ref pg66]))]) [] B hl.1 hP hD hS [] [0, 1] rfl rfl rfl (kX12_many_118 l D K _ ) wd_X12_many mml_X12_360 rfl rfl ⟨Nat.le_of_ble_eq_true rfl, Nat.le_of_ble_eq_true rfl⟩ (Nat.le_of_ble_eq_true rfl) ⟨Nat.le_of_ble_eq_true rfl, Nat.le_of_ble_eq_true rfl⟩ dX12_join_120 (fun r14 u H locs hw hP hD hS => ?_)
    try dsimp only at hw
    rcases hw with rfl
    have hP : va_P D vwCl [(ph1, .inl (K 0, 4096, .inl pf67)), (ph0, .inr (12, [.int 0, .int 4, .int 4, .ref pg2, .ref pg3, .ref pg4, .ref pg5, .int 0, .ref pg6, .ref pg7, .int 0, .ref pg8, .ref pg9, .ref pg10, .ref pg11, .ref pg12, .ref pg13, .ref pg14, .int 0, .ref pg15, .ref pg16, .ref pg17, .ref pg18, .ref pg19, .ref pg20, .int 0, .ref pg21, .int 0, .int 0, .int 0, .ref ph1, .int 0, .int 0, .ref pg22, .int 0, .ref pg23, .ref pg24, .ref pg25, .ref pg26, .ref pg27, .ref pg28, .ref pg29, .ref pg30, .ref pg31, .ref pg32, .ref pg33, .ref pg34, .ref pg35, .ref pg36, .ref pg37, .ref pg38, .ref pg39, .ref pg40, .ref pg41, .ref pg42, .ref pg43, .ref pg44, .ref pg45, .int 0, .int 0, .int 0, .int 0, .int 0, .long 0, .int 0, .int 0, .int 0, .int 0, .int 0, .int (-1), .int 0, .ref pg46, .ref pg47, .ref pg48, .ref pg49, .ref pg50, .int 0, .int 0, .ref pg51, .ref pg52, .ref pg53, .ref pg54, .ref pg55, .ref pg56, .ref pg57, .ref pg58, .int 0, .int 0, .int 0, .int 0, .ref pg59, .ref pg60, .int 0, .ref pg61, .ref pg62, .ref pg63, .ref pg64, .ref pg65, .ref pg66]))] H := hP
    have hD : va_D A [(ph1, .inl (K 0, 4096, .inl pf67)), (ph0, .inr (12, [.int 0, .int 4, .int 4, .ref pg2, .ref pg3, .ref pg4, .ref pg5, .int 0, .ref pg6, .ref pg7, .int 0, .ref pg8, .ref pg9, .ref pg10, .ref pg11, .ref pg12, .ref pg13, .ref pg14, .int 0, .ref pg15, .ref pg16, .ref pg17, .ref pg18, .ref pg19, .ref pg20, .int 0, .ref pg21, .int 0, .int 0, .int 0, .ref ph1, .int 0, .int 0, .ref pg22, .int 0, .ref pg23, .ref pg24, .ref pg25, .ref pg26, .ref pg27, .ref pg28, .ref pg29, .ref pg30, .ref pg31, .ref pg32, .ref pg33, .ref pg34, .ref pg35, .ref pg36, .ref pg37, .ref pg38, .ref pg39, .ref pg40, .ref pg41, .ref pg42, .ref pg43, .ref pg44, .ref pg45, .int 0, .int 0, .int 0, .int 0, .int 0, .long 0, .int 0, .int 0, .int 0, .int 0, .int 0, .int (-1), .int 0, .ref pg46, .ref pg47, .ref pg48, .ref pg49, .ref pg50, .int 0, .int 0, .ref pg51, .ref pg52, .ref pg53, .ref pg54, .ref pg55, .ref pg56, .ref pg57, .ref pg58, .int 0, .int 0, .int 0, .int 0, .ref pg59, .ref pg60, .int 0, .ref pg61, .ref pg62, .ref pg63, .ref pg64, .ref pg65, .ref pg66]))] := hD
    refine lv_istore (lv' := [(5, .int 0), (6, .int 0), (0, .ref ph0), (1, .int px68), (2, .int px69), (3, .int px70), (4, .int px71)]) hx hb dX12_join_123 hl (by decide) rfl (fun ls hl => ?_)
    refine lv_aload_n hx hb dX12_join_125 rfl (lv_at hl 2 rfl) ?_
    refine uGet (ci := 12) (C := RX12) (T := TX12) (N := 99) (v := .ref ph1) B inlX12 hP 1 rfl rfl 30 rfl mfl_X12_78 rfl rfl dX12_join_126 ?_
    refine lv_aload_n hx hb dX12_join_129 rfl (lv_at hl 2 rfl) ?_
    refine uGet (ci := 12) (C := RX12) (T := TX12) (N := 99) (v := .int 0) B inlX12 hP 1 rfl rfl 31 rfl mfl_X12_366 rfl rfl dX12_join_130 ?_
    refine lv_pc (q := 133) rfl ?_
    refine lv_iload hx hb dX12_join_133 (lv_at hl 1 rfl) ?_
    refine uIast (i := 0) (j := 0) (ws' := [(ph1, .inl (K 0, 4096, .inl (upd pf67 0 0))), (ph0, .inr (12, [.int 0, .int 4, .int 4, .ref pg2, .ref pg3, .ref pg4, .ref pg5, .int 0, .ref pg6, .ref pg7, .int 0, .ref pg8, .ref pg9, .ref pg10, .ref pg11, .ref pg12, .ref pg13, .ref pg14, .int 0, .ref pg15, .ref pg16, .ref pg17, .ref pg18, .ref pg19, .ref pg20, .int 0, .ref pg21, .int 0, .int 0, .int 0, .ref ph1, .int 0, .int 0, .ref pg22, .int 0, .ref pg23, .ref pg24, .ref pg25, .ref pg26, .ref pg27, .ref pg28, .ref pg29, .ref pg30, .ref pg31, .ref pg32, .ref pg33, .ref pg34, .ref pg35, .ref pg36, .ref pg37, .ref pg38, .ref pg39, .ref pg40, .ref pg41, .ref pg42, .ref pg43, .ref pg44, .ref pg45, .int 0, .int 0, .int 0, .int 0, .int 0, .long 0, .int 0, .int 0, .int 0, .int 0, .int 0, .int (-1), .int 0, .ref pg46, .ref pg47, .ref pg48, .ref pg49, .ref pg50, .int 0, .int 0, .ref pg51, .ref pg52, .ref pg53, .ref pg54, .ref pg55, .ref pg56, .ref pg57, .ref pg58, .int 0, .int 0, .int 0, .int 0, .ref pg59, .ref pg60, .int 0, .ref pg61, .ref pg62, .ref pg63, .ref pg64, .ref pg65, .ref pg66]))]) B hP hD hS 0 rfl (by decide) rfl rfl dX12_join_135 (fun H locs hP hD hS => ?_)
    refine lv_aload_n hx hb dX12_join_136 rfl (lv_at hl 2 rfl) ?_
    refine lv_dup hx hb dX12_join_137 rfl ?_
    refine uGet (ci := 12) (C := RX12) (T := TX12) (N := 99) (v := .int 0) B inlX12 hP 1 rfl rfl 31 rfl mfl_X12_366 rfl rfl dX12_join_138 ?_
    refine lv_iconst (v := 1) hx hb dX12_join_141 (by decide) ?_
    refine lv_pc (q := 142) rfl ?_
    refine lv_iadd hx hb dX12_join_142 ?_
    refine lv_fixi (y := 1) (by decide) ?_
    refine uPut (ci := 12) (C := RX12) (T := TX12) (N := 99) (ws' := [(ph1, .inl (K 0, 4096, .inl (upd pf67 0 0))), (ph0, .inr (12, [.int 0, .int 4, .int 4, .ref pg2, .ref pg3, .ref pg4, .ref pg5, .int 0, .ref pg6, .ref pg7, .int 0, .ref pg8, .ref pg9, .ref pg10, .ref pg11, .ref pg12, .ref pg13, .ref pg14, .int 0, .ref pg15, .ref pg16, .ref pg17, .ref pg18, .ref pg19, .ref pg20, .int 0, .ref pg21, .int 0, .int 0, .int 0, .ref ph1, .int 1, .int 0, .ref pg22, .int 0, .ref pg23, .ref pg24, .ref pg25, .ref pg26, .ref pg27, .ref pg28, .ref pg29, .ref pg30, .ref pg31, .ref pg32, .ref pg33, .ref pg34, .ref pg35, .ref pg36, .ref pg37, .ref pg38, .ref pg39, .ref pg40, .ref pg41, .ref pg42, .ref pg43, .ref pg44, .ref pg45, .int 0, .int 0, .int 0, .int 0, .int 0, .long 0, .int 0, .int 0, .int 0, .int 0, .int 0, .int (-1), .int 0, .ref pg46, .ref pg47, .ref pg48, .ref pg49, .ref pg50, .int 0, .int 0, .ref pg51, .ref pg52, .ref pg53, .ref pg54, .ref pg55, .ref pg56, .ref pg57, .ref pg58, .int 0, .int 0, .int 0, .int 0, .ref pg59, .ref pg60, .int 0, .ref pg61, .ref pg62, .ref pg63, .ref pg64, .ref pg65, .ref pg66]))]) B inlX12 tyX12_ok nmX12 hP hD hS 1 rfl rfl 31 rfl mfl_X12_366 rfl rfl rfl rfl rfl rfl dX12_join_143 (fun H locs hP hD hS => ?_)
    refine lv_iinc (v := 1) (lv' := [(6, .int 1), (5, .int 0), (0, .ref ph0), (1, .int px68), (2, .int px69), (3, .int px70), (4, .int px71)]) hx hb dX12_join_146 hl (k := 1) rfl (by decide) (by decide) rfl (fun ls hl => ?_)
    refine lv_goto (tgt := 39) hx hb dX12_join_149 (by decide) ?_
    refine lv_iload hx hb dX12_join_39 (lv_at hl 0 rfl) ?_
    refine lv_iconst (v := 1) hx hb dX12_join_41 (by decide) ?_
    refine lv_pc (q := 42) rfl ?_
    refine lv_aload_n hx hb dX12_join_42 rfl (lv_at hl 2 rfl) ?_
    refine uGet (ci := 12) (C := RX12) (T := TX12) (N := 99) (v := .int 0) B inlX12 hP 1 rfl rfl 10 rfl mfl_X12_227 rfl rfl dX12_join_43 ?_
    refine lv_ishl hx hb dX12_join_46 ?_
    refine lv_fixi (y := 1) (by decide) ?_
    refine lv_icmp_ge (tgt := 152) hx hb dX12_join_47 (by decide) (fun _ => ?_) (fun h9 => absurd (by decide) h9)
    refine lv_aload_n hx hb dX12_join_152 rfl (lv_at hl 2 rfl) ?_
    refine lv_iload hx hb dX12_join_153 (lv_at hl 1 rfl) ?_
    refine lv_pc (q := 155) rfl ?_
    refine lv_iconst (v := (-1)) hx hb dX12_join_155 (by decide) ?_
    refine lv_icmp_eq (tgt := 163) hx hb dX12_join_156 (by decide) (fun h9 => absurd h9 (by decide)) (fun _ => ?_)
    refine lv_iconst (v := 1) hx hb dX12_join_159 (by decide) ?_
    refine lv_goto (tgt := 164) hx hb dX12_join_160 (by decide) ?_
    refine uPut (ci := 12) (C := RX12) (T := TX12) (N := 99) (ws' := [(ph1, .inl (K 0, 4096, .inl (upd pf67 0 0))), (ph0, .inr (12, [.int 0, .int 4, .int 4, .ref pg2, .ref pg3, .ref pg4, .ref pg5, .int 0, .ref pg6, .ref pg7, .int 0, .ref pg8, .ref pg9, .ref pg10, .ref pg11, .ref pg12, .ref pg13, .ref pg14, .int 0, .ref pg15, .ref pg16, .ref pg17, .ref pg18, .ref pg19, .ref pg20, .int 0, .ref pg21, .int 0, .int 0, .int 1, .ref ph1, .int 1, .int 0, .ref pg22, .int 0, .ref pg23, .ref pg24, .ref pg25, .ref pg26, .ref pg27, .ref pg28, .ref pg29, .ref pg30, .ref pg31, .ref pg32, .ref pg33, .ref pg34, .ref pg35, .ref pg36, .ref pg37, .ref pg38, .ref pg39, .ref pg40, .ref pg41, .ref pg42, .ref pg43, .ref pg44, .ref pg45, .int 0, .int 0, .int 0, .int 0, .int 0, .long 0, .int 0, .int 0, .int 0, .int 0, .int 0, .int (-1), .int 0, .ref pg46, .ref pg47, .ref pg48, .ref pg49, .ref pg50, .int 0, .int 0, .ref pg51, .ref pg52, .ref pg53, .ref pg54, .ref pg55, .ref pg56, .ref pg57, .ref pg58, .int 0, .int 0, .int 0, .int 0, .ref pg59, .ref pg60, .int 0, .ref pg61, .ref pg62, .ref pg63, .ref pg64, .ref pg65, .ref pg66]))]) B inlX12 tyX12_ok nmX12 hP hD hS 1 rfl rfl 29 rfl mfl_X12_237 rfl rfl rfl rfl rfl rfl dX12_join_164 (fun H locs hP hD hS => ?_)
    refine lv_aload_n hx hb dX12_join_167 rfl (lv_at hl 2 rfl) ?_
    refine lv_pc (q := 168) rfl ?_
    refine lv_iconst (v := 0) hx hb dX12_join_168 (by decide) ?_
    refine uPut (ci := 12) (C := RX12) (T := TX12) (N := 99) (ws' := [(ph1, .inl (K 0, 4096, .inl (upd pf67 0 0))), (ph0, .inr (12, [.int 0, .int 4, .int 4, .ref pg2, .ref pg3, .ref pg4, .ref pg5, .int 0, .ref pg6, .ref pg7, .int 0, .ref pg8, .ref pg9, .ref pg10, .ref pg11, .ref pg12, .ref pg13, .ref pg14, .int 0, .ref pg15, .ref pg16, .ref pg17, .ref pg18, .ref pg19, .ref pg20, .int 0, .ref pg21, .int 0, .int 0, .int 1, .ref ph1, .int 1, .int 0, .ref pg22, .int 0, .ref pg23, .ref pg24, .ref pg25, .ref pg26, .ref pg27, .ref pg28, .ref pg29, .ref pg30, .ref pg31, .ref pg32, .ref pg33, .ref pg34, .ref pg35, .ref pg36, .ref pg37, .ref pg38, .ref pg39, .ref pg40, .ref pg41, .ref pg42, .ref pg43, .ref pg44, .ref pg45, .int 0, .int 0, .int 0, .int 0, .int 0, .long 0, .int 0, .int 0, .int 0, .int 0, .int 0, .int (-1), .int 0, .ref pg46, .ref pg47, .ref pg48, .ref pg49, .ref pg50, .int 0, .int 0, .ref pg51, .ref pg52, .ref pg53, .ref pg54, .ref pg55, .ref pg56, .ref pg57, .ref pg58, .int 0, .int 0, .int 0, .int 0, .ref pg59, .ref pg60, .int 0, .ref pg61, .ref pg62, .ref pg63, .ref pg64, .ref pg65, .ref pg66]))]) B inlX12 tyX12_ok nmX12 hP hD hS 1 rfl rfl 32 rfl mfl_X12_369 rfl rfl rfl rfl rfl rfl dX12_join_169 (fun H locs hP hD hS => ?_)
    refine lv_iconst (v := 0) hx hb dX12_join_172 (by decide) ?_
    refine lv_istore (lv' := [(6, .int 0), (5, .int 0), (0, .ref ph0), (1, .int px68), (2, .int px69), (3, .int px70), (4, .int px71)]) hx hb dX12_join_173 hl (by decide) rfl (fun ls hl => ?_)
    refine lv_iload hx hb dX12_join_175 (lv_at hl 0 rfl) ?_
    refine lv_aload_n hx hb dX12_join_177 rfl (lv_at hl 2 rfl) ?_
    refine lv_pc (q := 178) rfl ?_
    refine uGet (ci := 12) (C := RX12) (T := TX12) (N := 99) (v := .int 0) B inlX12 hP 1 rfl rfl 10 rfl mfl_X12_227 rfl rfl dX12_join_178 ?_
    refine lv_icmp_ge (tgt := 214) hx hb dX12_join_181 (by decide) (fun _ => ?_) (fun h9 => absurd (by decide) h9)
    refine lv_iload hx hb dX12_join_214 (lv_at hl 1 rfl) ?_
    exact uRi () B (Or.inr ⟨rfl, ⟨w3, w4, w5, w6, w7, w8, w10⟩⟩) (uSub hP [] rfl) (hD.sub [] rfl rfl) hS dX12_join_216
  have hP : va_P D vwCl [(ph0, .inr (12, [.int 0, .int 4, .int 4, .ref pg2, .ref pg3, .ref pg4, .ref pg5, .int 0, .ref pg6, .ref pg7, .int 0, .ref pg8, .ref pg9, .ref pg10, .ref pg11, .ref pg12, .ref pg13, .ref pg14, .int 0, .ref pg15, .ref pg16, .ref pg17, .ref pg18, .ref pg19, .ref pg20, .int 0, .ref pg21, .int 0, .int 0, .int 0, .ref ph1, .int 0, .int 0, .ref pg22, .int 0, .ref pg23, .ref pg24, .ref pg25, .ref pg26, .ref pg27, .ref pg28, .ref pg29, .ref pg30, .ref pg31, .ref pg32, .ref pg33, .ref pg34, .ref pg35, .ref pg36, .ref pg37, .ref pg38, .ref pg39, .ref pg40, .ref pg41, .ref pg42, .ref pg43, .ref pg44, .ref pg45, .int 0, .int 0, .int 0, .int 0, .int 0, .long 0, .int 0, .int 0, .int 0, .int 0, .int 0, .int (-1), .int 0, .ref pg46, .ref pg47, .ref pg48, .ref pg49, .ref pg50, .int 0, .int 0, .ref pg51, .ref pg52, .ref pg53, .ref pg54, .ref pg55, .ref pg56, .ref pg57, .ref pg58, .int 0, .int 0, .int 0, .int 0, .ref pg59, .ref pg60, .int 0, .ref pg61, .ref pg62, .ref pg63, .ref pg64, .ref pg65, .ref pg66])), (ph1, .inl (K 0, 4096, .inl pf67))] H := hP
  have hD : va_D A [(ph0, .inr (12, [.int 0, .int 4, .int 4, .ref pg2, .ref pg3, .ref pg4, .ref pg5, .int 0, .ref pg6, .ref pg7, .int 0, .ref pg8, .ref pg9, .ref pg10, .ref pg11, .ref pg12, .ref pg13, .ref pg14, .int 0, .ref pg15, .ref pg16, .ref pg17, .ref pg18, .ref pg19, .ref pg20, .int 0, .ref pg21, .int 0, .int 0, .int 0, .ref ph1, .int 0, .int 0, .ref pg22, .int 0, .ref pg23, .ref pg24, .ref pg25, .ref pg26, .ref pg27, .ref pg28, .ref pg29, .ref pg30, .ref pg31, .ref pg32, .ref pg33, .ref pg34, .ref pg35, .ref pg36, .ref pg37, .ref pg38, .ref pg39, .ref pg40, .ref pg41, .ref pg42, .ref pg43, .ref pg44, .ref pg45, .int 0, .int 0, .int 0, .int 0, .int 0, .long 0, .int 0, .int 0, .int 0, .int 0, .int 0, .int (-1), .int 0, .ref pg46, .ref pg47, .ref pg48, .ref pg49, .ref pg50, .int 0, .int 0, .ref pg51, .ref pg52, .ref pg53, .ref pg54, .ref pg55, .ref pg56, .ref pg57, .ref pg58, .int 0, .int 0, .int 0, .int 0, .ref pg59, .ref pg60, .int 0, .ref pg61, .ref pg62, .ref pg63, .ref pg64, .ref pg65, .ref pg66])), (ph1, .inl (K 0, 4096, .inl pf67))] := hD
  refine lv_if_ne (tgt := 24) hx hb dX12_join_19 (by decide) (fun h9 => absurd (by decide) h9) (fun _ => ?_)
  refine lv_pc (q := 22) rfl ?_
  refine lv_iconst (v := (-1)) hx hb dX12_join_22 (by decide) ?_
  exact uRi () B (Or.inl ⟨rfl, Or.inr ⟨w3, w4, w5, w6, w7, w8, w11, w12⟩⟩) (uSub hP [] rfl) (hD.sub [] rfl rfl) hS dX12_join_23
def qkX11_joined_120 (ph0 : Nat) (ph1 : Nat) (pg2 : Nat) (pg3 : Nat) (pg4 : Nat) (pg5 : Nat) (pg6 : Nat) (pg7 : Nat) (pg8 : Nat) (pg9 : Nat) (pg10 : Nat) (pg11 : Nat) (pg12 : Nat) (pg13 : Nat) (px14 : Int32) (px15 : Int32) : Int32 → (Unit) → Prop := (fun (r : Int32) (u : Unit) => r = (-1))
def vkX11_joined_120 (K : Nat → ClassId) (ph0 : Nat) (ph1 : Nat) (pg2 : Nat) (pg3 : Nat) (pg4 : Nat) (pg5 : Nat) (pg6 : Nat) (pg7 : Nat) (pg8 : Nat) (pg9 : Nat) (pg10 : Nat) (pg11 : Nat) (pg12 : Nat) (pg13 : Nat) (px14 : Int32) (px15 : Int32) : (Unit) → va_W := (fun (u : Unit) => [])
set_option maxHeartbeats 4000000 in
set_option maxRecDepth 100000 in
theorem kX11_joined_120 (l : Launch) (D : va_G) (K : Nat → ClassId) (sz : Nat) (ph0 : Nat) (ph1 : Nat) (pg2 : Nat) (pg3 : Nat) (pg4 : Nat) (pg5 : Nat) (pg6 : Nat) (pg7 : Nat) (pg8 : Nat) (pg9 : Nat) (pg10 : Nat) (pg11 : Nat) (pg12 : Nat) (pg13 : Nat) (px14 : Int32) (px15 : Int32) : uMi l yX11_joined cX11_joined 3 (some .int) { frames := 0, cells := 0, slots := 0, locals := 0 } [.ref ph0, .int px14, .int px15] D K [(ph0, .inr (11, [.ref pg2, .ref pg3, .ref pg4, .ref pg5, .ref pg6, .ref ph1, .ref pg7, .ref pg8, .ref pg9, .ref pg10, .ref pg11])), (ph1, .inr (6, [.ref pg12, .ref pg13, .int 0, .int (-1), .int 0]))] sz (qkX11_joined_120 ph0 ph1 pg2 pg3 pg4 pg5 pg6 pg7 pg8 pg9 pg10 pg11 pg12 pg13 px14 px15) (vkX11_joined_120 K ph0 ph1 pg2 pg3 pg4 pg5 pg6 pg7 pg8 pg9 pg10 pg11 pg12 pg13 px14 px15) := by
  refine uMet (Qc := uQi D (qkX11_joined_120 ph0 ph1 pg2 pg3 pg4 pg5 pg6 pg7 pg8 pg9 pg10 pg11 pg12 pg13 px14 px15) (vkX11_joined_120 K ph0 ph1 pg2 pg3 pg4 pg5 pg6 pg7 pg8 pg9 pg10 pg11 pg12 pg13 px14 px15)) (ret := (some .int)) (by decide) (Nat.le_of_ble_eq_true rfl) ?_
  intro p e s m below meth c A ls hAe hsz B hP hD hS hl
  have hx := B.1
  have hb := B.2.1
  have hl : lv_has ls 3 [(0, .ref ph0), (1, .int px14), (2, .int px15)] := hl
  refine lv_aload_n hx hb dX11_joined_0 rfl (lv_at hl 0 rfl) ?_
  refine uGet (ci := 11) (C := RX11) (T := TX11) (N := 11) (v := .ref ph1) B inlX11 hP 0 rfl rfl 5 rfl mfl_X11_53 rfl rfl dX11_joined_1 ?_
  refine uGet (ci := 6) (C := RX6) (T := TX6) (N := 5) (v := .int 0) B inlX6 hP 1 rfl rfl 4 rfl mfl_X11_202 rfl rfl dX11_joined_4 ?_
  refine lv_if_ne (tgt := 12) hx hb dX11_joined_7 (by decide) (fun h9 => absurd (by decide) h9) (fun _ => ?_)
  refine lv_iconst (v := (-1)) hx hb dX11_joined_10 (by decide) ?_
  refine lv_pc (q := 11) rfl ?_
  exact uRi () B rfl (uSub hP [] rfl) (hD.sub [] rfl rfl) hS dX11_joined_11
def qkX12_joined_121 (ph0 : Nat) (pg1 : Nat) (pg2 : Nat) (pg3 : Nat) (pg4 : Nat) (pg5 : Nat) (pg6 : Nat) (pg7 : Nat) (pg8 : Nat) (pg9 : Nat) (pg10 : Nat) (pg11 : Nat) (pg12 : Nat) (pg13 : Nat) (pg14 : Nat) (pg15 : Nat) (pg16 : Nat) (pg17 : Nat) (pg18 : Nat) (pg19 : Nat) (pg20 : Nat) (pg21 : Nat) (pg22 : Nat) (pg23 : Nat) (pg24 : Nat) (pg25 : Nat) (pg26 : Nat) (pg27 : Nat) (pg28 : Nat) (pg29 : Nat) (pg30 : Nat) (pg31 : Nat) (pg32 : Nat) (pg33 : Nat) (pg34 : Nat) (pg35 : Nat) (pg36 : Nat) (pg37 : Nat) (pg38 : Nat) (pg39 : Nat) (pg40 : Nat) (pg41 : Nat) (pg42 : Nat) (pg43 : Nat) (pg44 : Nat) (pg45 : Nat) (pg46 : Nat) (pg47 : Nat) (pg48 : Nat) (pg49 : Nat) (pg50 : Nat) (pg51 : Nat) (pg52 : Nat) (pg53 : Nat) (pg54 : Nat) (pg55 : Nat) (pg56 : Nat) (pg57 : Nat) (pg58 : Nat) (pg59 : Nat) (pg60 : Nat) (pg61 : Nat) (pg62 : Nat) (pg63 : Nat) (pg64 : Nat) (pg65 : Nat) (pg66 : Nat) (px67 : Int32) (px68 : Int32) : Int32 → (Unit) → Prop := (fun (r : Int32) (u : Unit) => r = (-1))
def vkX12_joined_121 (K : Nat → ClassId) (ph0 : Nat) (pg1 : Nat) (pg2 : Nat) (pg3 : Nat) (pg4 : Nat) (pg5 : Nat) (pg6 : Nat) (pg7 : Nat) (pg8 : Nat) (pg9 : Nat) (pg10 : Nat) (pg11 : Nat) (pg12 : Nat) (pg13 : Nat) (pg14 : Nat) (pg15 : Nat) (pg16 : Nat) (pg17 : Nat) (pg18 : Nat) (pg19 : Nat) (pg20 : Nat) (pg21 : Nat) (pg22 : Nat) (pg23 : Nat) (pg24 : Nat) (pg25 : Nat) (pg26 : Nat) (pg27 : Nat) (pg28 : Nat) (pg29 : Nat) (pg30 : Nat) (pg31 : Nat) (pg32 : Nat) (pg33 : Nat) (pg34 : Nat) (pg35 : Nat) (pg36 : Nat) (pg37 : Nat) (pg38 : Nat) (pg39 : Nat) (pg40 : Nat) (pg41 : Nat) (pg42 : Nat) (pg43 : Nat) (pg44 : Nat) (pg45 : Nat) (pg46 : Nat) (pg47 : Nat) (pg48 : Nat) (pg49 : Nat) (pg50 : Nat) (pg51 : Nat) (pg52 : Nat) (pg53 : Nat) (pg54 : Nat) (pg55 : Nat) (pg56 : Nat) (pg57 : Nat) (pg58 : Nat) (pg59 : Nat) (pg60 : Nat) (pg61 : Nat) (pg62 : Nat) (pg63 : Nat) (pg64 : Nat) (pg65 : Nat) (pg66 : Nat) (px67 : Int32) (px68 : Int32) : (Unit) → va_W := (fun (u : Unit) => [])
set_option maxHeartbeats 4000000 in
set_option maxRecDepth 100000 in
theorem kX12_joined_121 (l : Launch) (D : va_G) (K : Nat → ClassId) (sz : Nat) (ph0 : Nat) (pg1 : Nat) (pg2 : Nat) (pg3 : Nat) (pg4 : Nat) (pg5 : Nat) (pg6 : Nat) (pg7 : Nat) (pg8 : Nat) (pg9 : Nat) (pg10 : Nat) (pg11 : Nat) (pg12 : Nat) (pg13 : Nat) (pg14 : Nat) (pg15 : Nat) (pg16 : Nat) (pg17 : Nat) (pg18 : Nat) (pg19 : Nat) (pg20 : Nat) (pg21 : Nat) (pg22 : Nat) (pg23 : Nat) (pg24 : Nat) (pg25 : Nat) (pg26 : Nat) (pg27 : Nat) (pg28 : Nat) (pg29 : Nat) (pg30 : Nat) (pg31 : Nat) (pg32 : Nat) (pg33 : Nat) (pg34 : Nat) (pg35 : Nat) (pg36 : Nat) (pg37 : Nat) (pg38 : Nat) (pg39 : Nat) (pg40 : Nat) (pg41 : Nat) (pg42 : Nat) (pg43 : Nat) (pg44 : Nat) (pg45 : Nat) (pg46 : Nat) (pg47 : Nat) (pg48 : Nat) (pg49 : Nat) (pg50 : Nat) (pg51 : Nat) (pg52 : Nat) (pg53 : Nat) (pg54 : Nat) (pg55 : Nat) (pg56 : Nat) (pg57 : Nat) (pg58 : Nat) (pg59 : Nat) (pg60 : Nat) (pg61 : Nat) (pg62 : Nat) (pg63 : Nat) (pg64 : Nat) (pg65 : Nat) (pg66 : Nat) (px67 : Int32) (px68 : Int32) : uMi l yX12_joined cX12_joined 3 (some .int) { frames := 0, cells := 0, slots := 0, locals := 0 } [.ref ph0, .int px67, .int px68] D K [(ph0, .inr (12, [.int 0, .int 4, .int 4, .ref pg1, .ref pg2, .ref pg3, .ref pg4, .int 0, .ref pg5, .ref pg6, .int 0, .ref pg7, .ref pg8, .ref pg9, .ref pg10, .ref pg11, .ref pg12, .ref pg13, .int 0, .ref pg14, .ref pg15, .ref pg16, .ref pg17, .ref pg18, .ref pg19, .int 0, .ref pg20, .int 0, .int 0, .int 0, .ref pg21, .int 0, .int 0, .ref pg22, .int 0, .ref pg23, .ref pg24, .ref pg25, .ref pg26, .ref pg27, .ref pg28, .ref pg29, .ref pg30, .ref pg31, .ref pg32, .ref pg33, .ref pg34, .ref pg35, .ref pg36, .ref pg37, .ref pg38, .ref pg39, .ref pg40, .ref pg41, .ref pg42, .ref pg43, .ref pg44, .ref pg45, .int 0, .int 0, .int 0, .int 0, .int 0, .long 0, .int 0, .int 0, .int 0, .int 0, .int 0, .int (-1), .int 0, .ref pg46, .ref pg47, .ref pg48, .ref pg49, .ref pg50, .int 0, .int 0, .ref pg51, .ref pg52, .ref pg53, .ref pg54, .ref pg55, .ref pg56, .ref pg57, .ref pg58, .int 0, .int 0, .int 0, .int 0, .ref pg59, .ref pg60, .int 0, .ref pg61, .ref pg62, .ref pg63, .ref pg64, .ref pg65, .ref pg66]))] sz (qkX12_joined_121 ph0 pg1 pg2 pg3 pg4 pg5 pg6 pg7 pg8 pg9 pg10 pg11 pg12 pg13 pg14 pg15 pg16 pg17 pg18 pg19 pg20 pg21 pg22 pg23 pg24 pg25 pg26 pg27 pg28 pg29 pg30 pg31 pg32 pg33 pg34 pg35 pg36 pg37 pg38 pg39 pg40 pg41 pg42 pg43 pg44 pg45 pg46 pg47 pg48 pg49 pg50 pg51 pg52 pg53 pg54 pg55 pg56 pg57 pg58 pg59 pg60 pg61 pg62 pg63 pg64 pg65 pg66 px67 px68) (vkX12_joined_121 K ph0 pg1 pg2 pg3 pg4 pg5 pg6 pg7 pg8 pg9 pg10 pg11 pg12 pg13 pg14 pg15 pg16 pg17 pg18 pg19 pg20 pg21 pg22 pg23 pg24 pg25 pg26 pg27 pg28 pg29 pg30 pg31 pg32 pg33 pg34 pg35 pg36 pg37 pg38 pg39 pg40 pg41 pg42 pg43 pg44 pg45 pg46 pg47 pg48 pg49 pg50 pg51 pg52 pg53 pg54 pg55 pg56 pg57 pg58 pg59 pg60 pg61 pg62 pg63 pg64 pg65 pg66 px67 px68) := by
  refine uMet (Qc := uQi D (qkX12_joined_121 ph0 pg1 pg2 pg3 pg4 pg5 pg6 pg7 pg8 pg9 pg10 pg11 pg12 pg13 pg14 pg15 pg16 pg17 pg18 pg19 pg20 pg21 pg22 pg23 pg24 pg25 pg26 pg27 pg28 pg29 pg30 pg31 pg32 pg33 pg34 pg35 pg36 pg37 pg38 pg39 pg40 pg41 pg42 pg43 pg44 pg45 pg46 pg47 pg48 pg49 pg50 pg51 pg52 pg53 pg54 pg55 pg56 pg57 pg58 pg59 pg60 pg61 pg62 pg63 pg64 pg65 pg66 px67 px68) (vkX12_joined_121 K ph0 pg1 pg2 pg3 pg4 pg5 pg6 pg7 pg8 pg9 pg10 pg11 pg12 pg13 pg14 pg15 pg16 pg17 pg18 pg19 pg20 pg21 pg22 pg23 pg24 pg25 pg26 pg27 pg28 pg29 pg30 pg31 pg32 pg33 pg34 pg35 pg36 pg37 pg38 pg39 pg40 pg41 pg42 pg43 pg44 pg45 pg46 pg47 pg48 pg49 pg50 pg51 pg52 pg53 pg54 pg55 pg56 pg57 pg58 pg59 pg60 pg61 pg62 pg63 pg64 pg65 pg66 px67 px68)) (ret := (some .int)) (by decide) (Nat.le_of_ble_eq_true rfl) ?_
  intro p e s m below meth c A ls hAe hsz B hP hD hS hl
  have hx := B.1
  have hb := B.2.1
  have hl : lv_has ls 3 [(0, .ref ph0), (1, .int px67), (2, .int px68)] := hl
  refine lv_aload_n hx hb dX12_joined_0 rfl (lv_at hl 0 rfl) ?_
  refine lv_iconst (v := 0) hx hb dX12_joined_1 (by decide) ?_
  refine uPut (ci := 12) (C := RX12) (T := TX12) (N := 99) (ws' := [(ph0, .inr (12, [.int 0, .int 4, .int 4, .ref pg1, .ref pg2, .ref pg3, .ref pg4, .int 0, .ref pg5, .ref pg6, .int 0, .ref pg7, .ref pg8, .ref pg9, .ref pg10, .ref pg11, .ref pg12, .ref pg13, .int 0, .ref pg14, .ref pg15, .ref pg16, .ref pg17, .ref pg18, .ref pg19, .int 0, .ref pg20, .int 0, .int 0, .int 0, .ref pg21, .int 0, .int 0, .ref pg22, .int 0, .ref pg23, .ref pg24, .ref pg25, .ref pg26, .ref pg27, .ref pg28, .ref pg29, .ref pg30, .ref pg31, .ref pg32, .ref pg33, .ref pg34, .ref pg35, .ref pg36, .ref pg37, .ref pg38, .ref pg39, .ref pg40, .ref pg41, .ref pg42, .ref pg43, .ref pg44, .ref pg45, .int 0, .int 0, .int 0, .int 0, .int 0, .long 0, .int 0, .int 0, .int 0, .int 0, .int 0, .int (-1), .int 0, .ref pg46, .ref pg47, .ref pg48, .ref pg49, .ref pg50, .int 0, .int 0, .ref pg51, .ref pg52, .ref pg53, .ref pg54, .ref pg55, .ref pg56, .ref pg57, .ref pg58, .int 0, .int 0, .int 0, .int 0, .ref pg59, .ref pg60, .int 0, .ref pg61, .ref pg62, .ref pg63, .ref pg64, .ref pg65, .ref pg66]))]) B inlX12 tyX12_ok nmX12 hP hD hS 0 rfl rfl 0 rfl mfl_X12_224 rfl rfl rfl rfl rfl rfl dX12_joined_2 (fun H locs hP hD hS => ?_)
  refine lv_aload_n hx hb dX12_joined_5 rfl (lv_at hl 0 rfl) ?_
  refine uGet (ci := 12) (C := RX12) (T := TX12) (N := 99) (v := .int 0) B inlX12 hP 0 rfl rfl 29 rfl mfl_X12_237 rfl rfl dX12_joined_6 ?_
  refine lv_pc (q := 9) rfl ?_
  refine lv_if_ne (tgt := 14) hx hb dX12_joined_9 (by decide) (fun h9 => absurd (by decide) h9) (fun _ => ?_)
  refine lv_iconst (v := (-1)) hx hb dX12_joined_12 (by decide) ?_
  exact uRi () B rfl (uSub hP [] rfl) (hD.sub [] rfl rfl) hS dX12_joined_13
def qkX11_dig_122 (ph0 : Nat) (ph1 : Nat) (pg2 : Nat) (pg3 : Nat) (pg4 : Nat) (pg5 : Nat) (pg6 : Nat) (pg7 : Nat) (pg8 : Nat) (pg9 : Nat) (pg10 : Nat) (pg11 : Nat) (pg12 : Nat) (pg13 : Nat) : Int32 → (Unit) → Prop := (fun (r : Int32) (u : Unit) => r = (-1))
def vkX11_dig_122 (K : Nat → ClassId) (ph0 : Nat) (ph1 : Nat) (pg2 : Nat) (pg3 : Nat) (pg4 : Nat) (pg5 : Nat) (pg6 : Nat) (pg7 : Nat) (pg8 : Nat) (pg9 : Nat) (pg10 : Nat) (pg11 : Nat) (pg12 : Nat) (pg13 : Nat) : (Unit) → va_W := (fun (u : Unit) => [])
set_option maxHeartbeats 4000000 in
set_option maxRecDepth 100000 in
theorem kX11_dig_122 (l : Launch) (D : va_G) (K : Nat → ClassId) (sz : Nat) (ph0 : Nat) (ph1 : Nat) (pg2 : Nat) (pg3 : Nat) (pg4 : Nat) (pg5 : Nat) (pg6 : Nat) (pg7 : Nat) (pg8 : Nat) (pg9 : Nat) (pg10 : Nat) (pg11 : Nat) (pg12 : Nat) (pg13 : Nat) : uMi l yX11_dig cX11_dig 1 (some .int) { frames := 0, cells := 0, slots := 0, locals := 0 } [.ref ph0] D K [(ph0, .inr (11, [.ref pg2, .ref pg3, .ref pg4, .ref pg5, .ref pg6, .ref ph1, .ref pg7, .ref pg8, .ref pg9, .ref pg10, .ref pg11])), (ph1, .inr (6, [.ref pg12, .ref pg13, .int 0, .int (-1), .int 0]))] sz (qkX11_dig_122 ph0 ph1 pg2 pg3 pg4 pg5 pg6 pg7 pg8 pg9 pg10 pg11 pg12 pg13) (vkX11_dig_122 K ph0 ph1 pg2 pg3 pg4 pg5 pg6 pg7 pg8 pg9 pg10 pg11 pg12 pg13) := by
  refine uMet (Qc := uQi D (qkX11_dig_122 ph0 ph1 pg2 pg3 pg4 pg5 pg6 pg7 pg8 pg9 pg10 pg11 pg12 pg13) (vkX11_dig_122 K ph0 ph1 pg2 pg3 pg4 pg5 pg6 pg7 pg8 pg9 pg10 pg11 pg12 pg13)) (ret := (some .int)) (by decide) (Nat.le_of_ble_eq_true rfl) ?_
  intro p e s m below meth c A ls hAe hsz B hP hD hS hl
  have hx := B.1
  have hb := B.2.1
  have hl : lv_has ls 1 [(0, .ref ph0)] := hl
  refine lv_aload_n hx hb dX11_dig_0 rfl (lv_at hl 0 rfl) ?_
  refine uGet (ci := 11) (C := RX11) (T := TX11) (N := 11) (v := .ref ph1) B inlX11 hP 0 rfl rfl 5 rfl mfl_X11_53 rfl rfl dX11_dig_1 ?_
  refine uGet (ci := 6) (C := RX6) (T := TX6) (N := 5) (v := .int 0) B inlX6 hP 1 rfl rfl 4 rfl mfl_X11_202 rfl rfl dX11_dig_4 ?_
  refine lv_if_eq (tgt := 20) hx hb dX11_dig_7 (by decide) (fun _ => ?_) (fun h9 => absurd (by decide) h9)
  refine lv_iconst (v := (-1)) hx hb dX11_dig_20 (by decide) ?_
  refine lv_pc (q := 21) rfl ?_
  exact uRi () B rfl (uSub hP [] rfl) (hD.sub [] rfl rfl) hS dX11_dig_21
def qkX12_dig_123 (ph0 : Nat) (pg1 : Nat) (pg2 : Nat) (pg3 : Nat) (pg4 : Nat) (pg5 : Nat) (pg6 : Nat) (pg7 : Nat) (pg8 : Nat) (pg9 : Nat) (pg10 : Nat) (pg11 : Nat) (pg12 : Nat) (pg13 : Nat) (pg14 : Nat) (pg15 : Nat) (pg16 : Nat) (pg17 : Nat) (pg18 : Nat) (pg19 : Nat) (pg20 : Nat) (pg21 : Nat) (pg22 : Nat) (pg23 : Nat) (pg24 : Nat) (pg25 : Nat) (pg26 : Nat) (pg27 : Nat) (pg28 : Nat) (pg29 : Nat) (pg30 : Nat) (pg31 : Nat) (pg32 : Nat) (pg33 : Nat) (pg34 : Nat) (pg35 : Nat) (pg36 : Nat) (pg37 : Nat) (pg38 : Nat) (pg39 : Nat) (pg40 : Nat) (pg41 : Nat) (pg42 : Nat) (pg43 : Nat) (pg44 : Nat) (pg45 : Nat) (pg46 : Nat) (pg47 : Nat) (pg48 : Nat) (pg49 : Nat) (pg50 : Nat) (pg51 : Nat) (pg52 : Nat) (pg53 : Nat) (pg54 : Nat) (pg55 : Nat) (pg56 : Nat) (pg57 : Nat) (pg58 : Nat) (pg59 : Nat) (pg60 : Nat) (pg61 : Nat) (pg62 : Nat) (pg63 : Nat) (pg64 : Nat) (pg65 : Nat) (pg66 : Nat) : Int32 → (Unit) → Prop := (fun (r : Int32) (u : Unit) => r = (-1))
def vkX12_dig_123 (K : Nat → ClassId) (ph0 : Nat) (pg1 : Nat) (pg2 : Nat) (pg3 : Nat) (pg4 : Nat) (pg5 : Nat) (pg6 : Nat) (pg7 : Nat) (pg8 : Nat) (pg9 : Nat) (pg10 : Nat) (pg11 : Nat) (pg12 : Nat) (pg13 : Nat) (pg14 : Nat) (pg15 : Nat) (pg16 : Nat) (pg17 : Nat) (pg18 : Nat) (pg19 : Nat) (pg20 : Nat) (pg21 : Nat) (pg22 : Nat) (pg23 : Nat) (pg24 : Nat) (pg25 : Nat) (pg26 : Nat) (pg27 : Nat) (pg28 : Nat) (pg29 : Nat) (pg30 : Nat) (pg31 : Nat) (pg32 : Nat) (pg33 : Nat) (pg34 : Nat) (pg35 : Nat) (pg36 : Nat) (pg37 : Nat) (pg38 : Nat) (pg39 : Nat) (pg40 : Nat) (pg41 : Nat) (pg42 : Nat) (pg43 : Nat) (pg44 : Nat) (pg45 : Nat) (pg46 : Nat) (pg47 : Nat) (pg48 : Nat) (pg49 : Nat) (pg50 : Nat) (pg51 : Nat) (pg52 : Nat) (pg53 : Nat) (pg54 : Nat) (pg55 : Nat) (pg56 : Nat) (pg57 : Nat) (pg58 : Nat) (pg59 : Nat) (pg60 : Nat) (pg61 : Nat) (pg62 : Nat) (pg63 : Nat) (pg64 : Nat) (pg65 : Nat) (pg66 : Nat) : (Unit) → va_W := (fun (u : Unit) => [])
set_option maxHeartbeats 4000000 in
set_option maxRecDepth 100000 in
theorem kX12_dig_123 (l : Launch) (D : va_G) (K : Nat → ClassId) (sz : Nat) (ph0 : Nat) (pg1 : Nat) (pg2 : Nat) (pg3 : Nat) (pg4 : Nat) (pg5 : Nat) (pg6 : Nat) (pg7 : Nat) (pg8 : Nat) (pg9 : Nat) (pg10 : Nat) (pg11 : Nat) (pg12 : Nat) (pg13 : Nat) (pg14 : Nat) (pg15 : Nat) (pg16 : Nat) (pg17 : Nat) (pg18 : Nat) (pg19 : Nat) (pg20 : Nat) (pg21 : Nat) (pg22 : Nat) (pg23 : Nat) (pg24 : Nat) (pg25 : Nat) (pg26 : Nat) (pg27 : Nat) (pg28 : Nat) (pg29 : Nat) (pg30 : Nat) (pg31 : Nat) (pg32 : Nat) (pg33 : Nat) (pg34 : Nat) (pg35 : Nat) (pg36 : Nat) (pg37 : Nat) (pg38 : Nat) (pg39 : Nat) (pg40 : Nat) (pg41 : Nat) (pg42 : Nat) (pg43 : Nat) (pg44 : Nat) (pg45 : Nat) (pg46 : Nat) (pg47 : Nat) (pg48 : Nat) (pg49 : Nat) (pg50 : Nat) (pg51 : Nat) (pg52 : Nat) (pg53 : Nat) (pg54 : Nat) (pg55 : Nat) (pg56 : Nat) (pg57 : Nat) (pg58 : Nat) (pg59 : Nat) (pg60 : Nat) (pg61 : Nat) (pg62 : Nat) (pg63 : Nat) (pg64 : Nat) (pg65 : Nat) (pg66 : Nat) : uMi l yX12_dig cX12_dig 6 (some .int) { frames := 0, cells := 0, slots := 0, locals := 0 } [.ref ph0] D K [(ph0, .inr (12, [.int 0, .int 4, .int 4, .ref pg1, .ref pg2, .ref pg3, .ref pg4, .int 0, .ref pg5, .ref pg6, .int 0, .ref pg7, .ref pg8, .ref pg9, .ref pg10, .ref pg11, .ref pg12, .ref pg13, .int 0, .ref pg14, .ref pg15, .ref pg16, .ref pg17, .ref pg18, .ref pg19, .int 0, .ref pg20, .int 0, .int 0, .int 0, .ref pg21, .int 0, .int 0, .ref pg22, .int 0, .ref pg23, .ref pg24, .ref pg25, .ref pg26, .ref pg27, .ref pg28, .ref pg29, .ref pg30, .ref pg31, .ref pg32, .ref pg33, .ref pg34, .ref pg35, .ref pg36, .ref pg37, .ref pg38, .ref pg39, .ref pg40, .ref pg41, .ref pg42, .ref pg43, .ref pg44, .ref pg45, .int 0, .int 0, .int 0, .int 0, .int 0, .long 0, .int 0, .int 0, .int 0, .int 0, .int 0, .int (-1), .int 0, .ref pg46, .ref pg47, .ref pg48, .ref pg49, .ref pg50, .int 0, .int 0, .ref pg51, .ref pg52, .ref pg53, .ref pg54, .ref pg55, .ref pg56, .ref pg57, .ref pg58, .int 0, .int 0, .int 0, .int 0, .ref pg59, .ref pg60, .int 0, .ref pg61, .ref pg62, .ref pg63, .ref pg64, .ref pg65, .ref pg66]))] sz (qkX12_dig_123 ph0 pg1 pg2 pg3 pg4 pg5 pg6 pg7 pg8 pg9 pg10 pg11 pg12 pg13 pg14 pg15 pg16 pg17 pg18 pg19 pg20 pg21 pg22 pg23 pg24 pg25 pg26 pg27 pg28 pg29 pg30 pg31 pg32 pg33 pg34 pg35 pg36 pg37 pg38 pg39 pg40 pg41 pg42 pg43 pg44 pg45 pg46 pg47 pg48 pg49 pg50 pg51 pg52 pg53 pg54 pg55 pg56 pg57 pg58 pg59 pg60 pg61 pg62 pg63 pg64 pg65 pg66) (vkX12_dig_123 K ph0 pg1 pg2 pg3 pg4 pg5 pg6 pg7 pg8 pg9 pg10 pg11 pg12 pg13 pg14 pg15 pg16 pg17 pg18 pg19 pg20 pg21 pg22 pg23 pg24 pg25 pg26 pg27 pg28 pg29 pg30 pg31 pg32 pg33 pg34 pg35 pg36 pg37 pg38 pg39 pg40 pg41 pg42 pg43 pg44 pg45 pg46 pg47 pg48 pg49 pg50 pg51 pg52 pg53 pg54 pg55 pg56 pg57 pg58 pg59 pg60 pg61 pg62 pg63 pg64 pg65 pg66) := by
  refine uMet (Qc := uQi D (qkX12_dig_123 ph0 pg1 pg2 pg3 pg4 pg5 pg6 pg7 pg8 pg9 pg10 pg11 pg12 pg13 pg14 pg15 pg16 pg17 pg18 pg19 pg20 pg21 pg22 pg23 pg24 pg25 pg26 pg27 pg28 pg29 pg30 pg31 pg32 pg33 pg34 pg35 pg36 pg37 pg38 pg39 pg40 pg41 pg42 pg43 pg44 pg45 pg46 pg47 pg48 pg49 pg50 pg51 pg52 pg53 pg54 pg55 pg56 pg57 pg58 pg59 pg60 pg61 pg62 pg63 pg64 pg65 pg66) (vkX12_dig_123 K ph0 pg1 pg2 pg3 pg4 pg5 pg6 pg7 pg8 pg9 pg10 pg11 pg12 pg13 pg14 pg15 pg16 pg17 pg18 pg19 pg20 pg21 pg22 pg23 pg24 pg25 pg26 pg27 pg28 pg29 pg30 pg31 pg32 pg33 pg34 pg35 pg36 pg37 pg38 pg39 pg40 pg41 pg42 pg43 pg44 pg45 pg46 pg47 pg48 pg49 pg50 pg51 pg52 pg53 pg54 pg55 pg56 pg57 pg58 pg59 pg60 pg61 pg62 pg63 pg64 pg65 pg66)) (ret := (some .int)) (by decide) (Nat.le_of_ble_eq_true rfl) ?_
  intro p e s m below meth c A ls hAe hsz B hP hD hS hl
  have hx := B.1
  have hb := B.2.1
  have hl : lv_has ls 6 [(0, .ref ph0)] := hl
  refine lv_aload_n hx hb dX12_dig_0 rfl (lv_at hl 0 rfl) ?_
  refine lv_iconst (v := 0) hx hb dX12_dig_1 (by decide) ?_
  refine uPut (ci := 12) (C := RX12) (T := TX12) (N := 99) (ws' := [(ph0, .inr (12, [.int 0, .int 4, .int 4, .ref pg1, .ref pg2, .ref pg3, .ref pg4, .int 0, .ref pg5, .ref pg6, .int 0, .ref pg7, .ref pg8, .ref pg9, .ref pg10, .ref pg11, .ref pg12, .ref pg13, .int 0, .ref pg14, .ref pg15, .ref pg16, .ref pg17, .ref pg18, .ref pg19, .int 0, .ref pg20, .int 0, .int 0, .int 0, .ref pg21, .int 0, .int 0, .ref pg22, .int 0, .ref pg23, .ref pg24, .ref pg25, .ref pg26, .ref pg27, .ref pg28, .ref pg29, .ref pg30, .ref pg31, .ref pg32, .ref pg33, .ref pg34, .ref pg35, .ref pg36, .ref pg37, .ref pg38, .ref pg39, .ref pg40, .ref pg41, .ref pg42, .ref pg43, .ref pg44, .ref pg45, .int 0, .int 0, .int 0, .int 0, .int 0, .long 0, .int 0, .int 0, .int 0, .int 0, .int 0, .int (-1), .int 0, .ref pg46, .ref pg47, .ref pg48, .ref pg49, .ref pg50, .int 0, .int 0, .ref pg51, .ref pg52, .ref pg53, .ref pg54, .ref pg55, .ref pg56, .ref pg57, .ref pg58, .int 0, .int 0, .int 0, .int 0, .ref pg59, .ref pg60, .int 0, .ref pg61, .ref pg62, .ref pg63, .ref pg64, .ref pg65, .ref pg66]))]) B inlX12 tyX12_ok nmX12 hP hD hS 0 rfl rfl 0 rfl mfl_X12_224 rfl rfl rfl rfl rfl rfl dX12_dig_2 (fun H locs hP hD hS => ?_)
  refine lv_iconst (v := (-1)) hx hb dX12_dig_5 (by decide) ?_
  refine lv_istore_n (lv' := [(1, .int (-1)), (0, .ref ph0)]) hx hb dX12_dig_6 rfl hl (by decide) rfl (fun ls hl => ?_)
  refine lv_pc (q := 7) rfl ?_
  refine lv_iconst (v := 0) hx hb dX12_dig_7 (by decide) ?_
  refine lv_istore_n (lv' := [(2, .int 0), (1, .int (-1)), (0, .ref ph0)]) hx hb dX12_dig_8 rfl hl (by decide) rfl (fun ls hl => ?_)
  refine lv_iconst (v := 0) hx hb dX12_dig_9 (by decide) ?_
  refine lv_istore_n (lv' := [(3, .int 0), (2, .int 0), (1, .int (-1)), (0, .ref ph0)]) hx hb dX12_dig_10 rfl hl (by decide) rfl (fun ls hl => ?_)
  refine lv_iload_n hx hb dX12_dig_11 rfl (lv_at hl 0 rfl) ?_
  refine lv_bipush (v := 12) hx hb dX12_dig_12 (by decide) ?_
  refine lv_pc (q := 14) rfl ?_
  refine lv_icmp_ge (tgt := 99) hx hb dX12_dig_14 (by decide) (fun h9 => absurd h9 (by decide)) (fun _ => ?_)
  refine lv_aload_n hx hb dX12_dig_17 rfl (lv_at hl 3 rfl) ?_
  refine uGet (ci := 12) (C := RX12) (T := TX12) (N := 99) (v := .int 0) B inlX12 hP 0 rfl rfl 29 rfl mfl_X12_237 rfl rfl dX12_dig_18 ?_
  refine lv_if_eq (tgt := 99) hx hb dX12_dig_21 (by decide) (fun _ => ?_) (fun h9 => absurd (by decide) h9)
  refine lv_iload_n hx hb dX12_dig_99 rfl (lv_at hl 2 rfl) ?_
  exact uRi () B rfl (uSub hP [] rfl) (hD.sub [] rfl rfl) hS dX12_dig_100
def qkX11_dug_124 (ph0 : Nat) (ph1 : Nat) (pg2 : Nat) (pg3 : Nat) (pg4 : Nat) (pg5 : Nat) (pg6 : Nat) (pg7 : Nat) (pg8 : Nat) (pg9 : Nat) (pg10 : Nat) (pg11 : Nat) (pg12 : Nat) (pg13 : Nat) (pg14 : Nat) (pg15 : Nat) (pg16 : Nat) (pg17 : Nat) (pg18 : Nat) (pg19 : Nat) (px20 : Int32) : Int32 → (Unit) → Prop := (fun (r : Int32) (u : Unit) => r = 0 ∧ (((px20 < 0) ∨ (¬ px20 < 0))))
def vkX11_dug_124 (K : Nat → ClassId) (ph0 : Nat) (ph1 : Nat) (pg2 : Nat) (pg3 : Nat) (pg4 : Nat) (pg5 : Nat) (pg6 : Nat) (pg7 : Nat) (pg8 : Nat) (pg9 : Nat) (pg10 : Nat) (pg11 : Nat) (pg12 : Nat) (pg13 : Nat) (pg14 : Nat) (pg15 : Nat) (pg16 : Nat) (pg17 : Nat) (pg18 : Nat) (pg19 : Nat) (px20 : Int32) : (Unit) → va_W := (fun (u : Unit) => [])
set_option maxHeartbeats 4000000 in
set_option maxRecDepth 100000 in
theorem kX11_dug_124 (l : Launch) (D : va_G) (K : Nat → ClassId) (sz : Nat) (ph0 : Nat) (ph1 : Nat) (pg2 : Nat) (pg3 : Nat) (pg4 : Nat) (pg5 : Nat) (pg6 : Nat) (pg7 : Nat) (pg8 : Nat) (pg9 : Nat) (pg10 : Nat) (pg11 : Nat) (pg12 : Nat) (pg13 : Nat) (pg14 : Nat) (pg15 : Nat) (pg16 : Nat) (pg17 : Nat) (pg18 : Nat) (pg19 : Nat) (px20 : Int32) : uMi l yX11_dug cX11_dug 3 (some .boolean) { frames := 1, cells := 0, slots := 0, locals := 21 } [.ref ph0, .int px20, .int 0] D K [(ph0, .inr (11, [.ref pg2, .ref ph1, .ref pg3, .ref pg4, .ref pg5, .ref pg6, .ref pg7, .ref pg8, .ref pg9, .ref pg10, .ref pg11])), (ph1, .inr (4, [.ref pg2, .ref pg12, .ref pg13, .ref pg14, .ref pg15, .ref pg16, .ref pg17, .ref pg18, .ref pg19, .int 0]))] sz (qkX11_dug_124 ph0 ph1 pg2 pg3 pg4 pg5 pg6 pg7 pg8 pg9 pg10 pg11 pg12 pg13 pg14 pg15 pg16 pg17 pg18 pg19 px20) (vkX11_dug_124 K ph0 ph1 pg2 pg3 pg4 pg5 pg6 pg7 pg8 pg9 pg10 pg11 pg12 pg13 pg14 pg15 pg16 pg17 pg18 pg19 px20) := by
  refine uMet (Qc := uQi D (qkX11_dug_124 ph0 ph1 pg2 pg3 pg4 pg5 pg6 pg7 pg8 pg9 pg10 pg11 pg12 pg13 pg14 pg15 pg16 pg17 pg18 pg19 px20) (vkX11_dug_124 K ph0 ph1 pg2 pg3 pg4 pg5 pg6 pg7 pg8 pg9 pg10 pg11 pg12 pg13 pg14 pg15 pg16 pg17 pg18 pg19 px20)) (ret := (some .boolean)) (by decide) (Nat.le_of_ble_eq_true rfl) ?_
  intro p e s m below meth c A ls hAe hsz B hP hD hS hl
  have hx := B.1
  have hb := B.2.1
  have hl : lv_has ls 3 [(0, .ref ph0), (1, .int px20), (2, .int 0)] := hl
  refine lv_aload_n hx hb dX11_dug_0 rfl (lv_at hl 0 rfl) ?_
  refine uGet (ci := 11) (C := RX11) (T := TX11) (N := 11) (v := .ref ph1) B inlX11 hP 0 rfl rfl 1 rfl mfl_X11_21 rfl rfl dX11_dug_1 ?_
  refine lv_iload_n hx hb dX11_dug_4 rfl (lv_at hl 1 rfl) ?_
  refine uVi (As := [.int px20]) (rest := []) (wr := [(ph0, .inr (11, [.ref pg2, .ref ph1, .ref pg3, .ref pg4, .ref pg5, .ref pg6, .ref pg7, .ref pg8, .ref pg9, .ref pg10, .ref pg11]))]) [(ph1, .inr (4, [.ref pg2, .ref pg12, .ref pg13, .ref pg14, .ref pg15, .ref pg16, .ref pg17, .ref pg18, .ref pg19, .int 0]))] B hl.1 hP hD hS [1] [0] rfl rfl rfl (kX4_has_56 l D K _ ph1 pg2 pg12 pg13 pg14 pg15 pg16 pg17 pg18 pg19 px20) wd_X4_has mml_X11_157 rfl rfl rfl rfl ⟨Nat.le_of_ble_eq_true rfl, Nat.le_of_ble_eq_true rfl⟩ (Nat.le_of_ble_eq_true rfl) ⟨Nat.le_of_ble_eq_true rfl, Nat.le_of_ble_eq_true rfl⟩ dX11_dug_5 (fun r1 u H locs hw hP hD hS => ?_)
  try dsimp only at hw
  rcases hw with ⟨rfl, w2⟩
  have hP : va_P D vwCl [(ph0, .inr (11, [.ref pg2, .ref ph1, .ref pg3, .ref pg4, .ref pg5, .ref pg6, .ref pg7, .ref pg8, .ref pg9, .ref pg10, .ref pg11])), (ph1, .inr (4, [.ref pg2, .ref pg12, .ref pg13, .ref pg14, .ref pg15, .ref pg16, .ref pg17, .ref pg18, .ref pg19, .int 0]))] H := hP
  have hD : va_D A [(ph0, .inr (11, [.ref pg2, .ref ph1, .ref pg3, .ref pg4, .ref pg5, .ref pg6, .ref pg7, .ref pg8, .ref pg9, .ref pg10, .ref pg11])), (ph1, .inr (4, [.ref pg2, .ref pg12, .ref pg13, .ref pg14, .ref pg15, .ref pg16, .ref pg17, .ref pg18, .ref pg19, .int 0]))] := hD
  refine lv_if_eq (tgt := 24) hx hb dX11_dug_8 (by decide) (fun _ => ?_) (fun h9 => absurd (by decide) h9)
  refine lv_pc (q := 24) rfl ?_
  refine lv_iconst (v := 0) hx hb dX11_dug_24 (by decide) ?_
  exact uRz () B rfl ⟨rfl, w2⟩ (uSub hP [] rfl) (hD.sub [] rfl rfl) hS dX11_dug_25
def qkX12_dug_125 (ph0 : Nat) (pg1 : Nat) (pg2 : Nat) (pg3 : Nat) (pg4 : Nat) (pg5 : Nat) (pg6 : Nat) (pg7 : Nat) (pg8 : Nat) (pg9 : Nat) (pg10 : Nat) (pg11 : Nat) (pg12 : Nat) (pg13 : Nat) (pg14 : Nat) (pg15 : Nat) (pg16 : Nat) (pg17 : Nat) (pg18 : Nat) (pg19 : Nat) (pg20 : Nat) (pg21 : Nat) (pg22 : Nat) (pg23 : Nat) (pg24 : Nat) (pg25 : Nat) (pg26 : Nat) (pg27 : Nat) (pg28 : Nat) (pg29 : Nat) (pg30 : Nat) (pg31 : Nat) (pg32 : Nat) (pg33 : Nat) (pg34 : Nat) (pg35 : Nat) (pg36 : Nat) (pg37 : Nat) (pg38 : Nat) (pg39 : Nat) (pg40 : Nat) (pg41 : Nat) (pg42 : Nat) (pg43 : Nat) (pg44 : Nat) (pg45 : Nat) (pg46 : Nat) (pg47 : Nat) (pg48 : Nat) (pg49 : Nat) (pg50 : Nat) (pg51 : Nat) (pg52 : Nat) (pg53 : Nat) (pg54 : Nat) (pg55 : Nat) (pg56 : Nat) (pg57 : Nat) (pg58 : Nat) (pg59 : Nat) (pg60 : Nat) (pg61 : Nat) (pg62 : Nat) (pg63 : Nat) (pg64 : Nat) (pg65 : Nat) (pg66 : Nat) (px67 : Int32) : Int32 → (Unit) → Prop := (fun (r : Int32) (u : Unit) => r = 0 ∧ (((px67 < 0) ∨ (¬ px67 < 0))))
def vkX12_dug_125 (K : Nat → ClassId) (ph0 : Nat) (pg1 : Nat) (pg2 : Nat) (pg3 : Nat) (pg4 : Nat) (pg5 : Nat) (pg6 : Nat) (pg7 : Nat) (pg8 : Nat) (pg9 : Nat) (pg10 : Nat) (pg11 : Nat) (pg12 : Nat) (pg13 : Nat) (pg14 : Nat) (pg15 : Nat) (pg16 : Nat) (pg17 : Nat) (pg18 : Nat) (pg19 : Nat) (pg20 : Nat) (pg21 : Nat) (pg22 : Nat) (pg23 : Nat) (pg24 : Nat) (pg25 : Nat) (pg26 : Nat) (pg27 : Nat) (pg28 : Nat) (pg29 : Nat) (pg30 : Nat) (pg31 : Nat) (pg32 : Nat) (pg33 : Nat) (pg34 : Nat) (pg35 : Nat) (pg36 : Nat) (pg37 : Nat) (pg38 : Nat) (pg39 : Nat) (pg40 : Nat) (pg41 : Nat) (pg42 : Nat) (pg43 : Nat) (pg44 : Nat) (pg45 : Nat) (pg46 : Nat) (pg47 : Nat) (pg48 : Nat) (pg49 : Nat) (pg50 : Nat) (pg51 : Nat) (pg52 : Nat) (pg53 : Nat) (pg54 : Nat) (pg55 : Nat) (pg56 : Nat) (pg57 : Nat) (pg58 : Nat) (pg59 : Nat) (pg60 : Nat) (pg61 : Nat) (pg62 : Nat) (pg63 : Nat) (pg64 : Nat) (pg65 : Nat) (pg66 : Nat) (px67 : Int32) : (Unit) → va_W := (fun (u : Unit) => [])
set_option maxHeartbeats 4000000 in
set_option maxRecDepth 100000 in
theorem kX12_dug_125 (l : Launch) (D : va_G) (K : Nat → ClassId) (sz : Nat) (ph0 : Nat) (pg1 : Nat) (pg2 : Nat) (pg3 : Nat) (pg4 : Nat) (pg5 : Nat) (pg6 : Nat) (pg7 : Nat) (pg8 : Nat) (pg9 : Nat) (pg10 : Nat) (pg11 : Nat) (pg12 : Nat) (pg13 : Nat) (pg14 : Nat) (pg15 : Nat) (pg16 : Nat) (pg17 : Nat) (pg18 : Nat) (pg19 : Nat) (pg20 : Nat) (pg21 : Nat) (pg22 : Nat) (pg23 : Nat) (pg24 : Nat) (pg25 : Nat) (pg26 : Nat) (pg27 : Nat) (pg28 : Nat) (pg29 : Nat) (pg30 : Nat) (pg31 : Nat) (pg32 : Nat) (pg33 : Nat) (pg34 : Nat) (pg35 : Nat) (pg36 : Nat) (pg37 : Nat) (pg38 : Nat) (pg39 : Nat) (pg40 : Nat) (pg41 : Nat) (pg42 : Nat) (pg43 : Nat) (pg44 : Nat) (pg45 : Nat) (pg46 : Nat) (pg47 : Nat) (pg48 : Nat) (pg49 : Nat) (pg50 : Nat) (pg51 : Nat) (pg52 : Nat) (pg53 : Nat) (pg54 : Nat) (pg55 : Nat) (pg56 : Nat) (pg57 : Nat) (pg58 : Nat) (pg59 : Nat) (pg60 : Nat) (pg61 : Nat) (pg62 : Nat) (pg63 : Nat) (pg64 : Nat) (pg65 : Nat) (pg66 : Nat) (px67 : Int32) : uMi l yX12_dug cX12_dug 3 (some .boolean) { frames := 1, cells := 0, slots := 0, locals := 21 } [.ref ph0, .int px67, .int 0] D K [(ph0, .inr (12, [.int 0, .int 4, .int 4, .ref pg1, .ref pg2, .ref pg3, .ref pg4, .int 0, .ref pg5, .ref pg6, .int 0, .ref pg7, .ref pg8, .ref pg9, .ref pg10, .ref pg11, .ref pg12, .ref pg13, .int 0, .ref pg14, .ref pg15, .ref pg16, .ref pg17, .ref pg18, .ref pg19, .int 0, .ref pg20, .int 0, .int 0, .int 0, .ref pg21, .int 0, .int 0, .ref pg22, .int 0, .ref pg23, .ref pg24, .ref pg25, .ref pg26, .ref pg27, .ref pg28, .ref pg29, .ref pg30, .ref pg31, .ref pg32, .ref pg33, .ref pg34, .ref pg35, .ref pg36, .ref pg37, .ref pg38, .ref pg39, .ref pg40, .ref pg41, .ref pg42, .ref pg43, .ref pg44, .ref pg45, .int 0, .int 0, .int 0, .int 0, .int 0, .long 0, .int 0, .int 0, .int 0, .int 0, .int 0, .int (-1), .int 0, .ref pg46, .ref pg47, .ref pg48, .ref pg49, .ref pg50, .int 0, .int 0, .ref pg51, .ref pg52, .ref pg53, .ref pg54, .ref pg55, .ref pg56, .ref pg57, .ref pg58, .int 0, .int 0, .int 0, .int 0, .ref pg59, .ref pg60, .int 0, .ref pg61, .ref pg62, .ref pg63, .ref pg64, .ref pg65, .ref pg66]))] sz (qkX12_dug_125 ph0 pg1 pg2 pg3 pg4 pg5 pg6 pg7 pg8 pg9 pg10 pg11 pg12 pg13 pg14 pg15 pg16 pg17 pg18 pg19 pg20 pg21 pg22 pg23 pg24 pg25 pg26 pg27 pg28 pg29 pg30 pg31 pg32 pg33 pg34 pg35 pg36 pg37 pg38 pg39 pg40 pg41 pg42 pg43 pg44 pg45 pg46 pg47 pg48 pg49 pg50 pg51 pg52 pg53 pg54 pg55 pg56 pg57 pg58 pg59 pg60 pg61 pg62 pg63 pg64 pg65 pg66 px67) (vkX12_dug_125 K ph0 pg1 pg2 pg3 pg4 pg5 pg6 pg7 pg8 pg9 pg10 pg11 pg12 pg13 pg14 pg15 pg16 pg17 pg18 pg19 pg20 pg21 pg22 pg23 pg24 pg25 pg26 pg27 pg28 pg29 pg30 pg31 pg32 pg33 pg34 pg35 pg36 pg37 pg38 pg39 pg40 pg41 pg42 pg43 pg44 pg45 pg46 pg47 pg48 pg49 pg50 pg51 pg52 pg53 pg54 pg55 pg56 pg57 pg58 pg59 pg60 pg61 pg62 pg63 pg64 pg65 pg66 px67) := by
  refine uMet (Qc := uQi D (qkX12_dug_125 ph0 pg1 pg2 pg3 pg4 pg5 pg6 pg7 pg8 pg9 pg10 pg11 pg12 pg13 pg14 pg15 pg16 pg17 pg18 pg19 pg20 pg21 pg22 pg23 pg24 pg25 pg26 pg27 pg28 pg29 pg30 pg31 pg32 pg33 pg34 pg35 pg36 pg37 pg38 pg39 pg40 pg41 pg42 pg43 pg44 pg45 pg46 pg47 pg48 pg49 pg50 pg51 pg52 pg53 pg54 pg55 pg56 pg57 pg58 pg59 pg60 pg61 pg62 pg63 pg64 pg65 pg66 px67) (vkX12_dug_125 K ph0 pg1 pg2 pg3 pg4 pg5 pg6 pg7 pg8 pg9 pg10 pg11 pg12 pg13 pg14 pg15 pg16 pg17 pg18 pg19 pg20 pg21 pg22 pg23 pg24 pg25 pg26 pg27 pg28 pg29 pg30 pg31 pg32 pg33 pg34 pg35 pg36 pg37 pg38 pg39 pg40 pg41 pg42 pg43 pg44 pg45 pg46 pg47 pg48 pg49 pg50 pg51 pg52 pg53 pg54 pg55 pg56 pg57 pg58 pg59 pg60 pg61 pg62 pg63 pg64 pg65 pg66 px67)) (ret := (some .boolean)) (by decide) (Nat.le_of_ble_eq_true rfl) ?_
  intro p e s m below meth c A ls hAe hsz B hP hD hS hl
  have hx := B.1
  have hb := B.2.1
  have hl : lv_has ls 3 [(0, .ref ph0), (1, .int px67), (2, .int 0)] := hl
  refine lv_aload_n hx hb dX12_dug_0 rfl (lv_at hl 0 rfl) ?_
  refine lv_iconst (v := 0) hx hb dX12_dug_1 (by decide) ?_
  refine uPut (ci := 12) (C := RX12) (T := TX12) (N := 99) (ws' := [(ph0, .inr (12, [.int 0, .int 4, .int 4, .ref pg1, .ref pg2, .ref pg3, .ref pg4, .int 0, .ref pg5, .ref pg6, .int 0, .ref pg7, .ref pg8, .ref pg9, .ref pg10, .ref pg11, .ref pg12, .ref pg13, .int 0, .ref pg14, .ref pg15, .ref pg16, .ref pg17, .ref pg18, .ref pg19, .int 0, .ref pg20, .int 0, .int 0, .int 0, .ref pg21, .int 0, .int 0, .ref pg22, .int 0, .ref pg23, .ref pg24, .ref pg25, .ref pg26, .ref pg27, .ref pg28, .ref pg29, .ref pg30, .ref pg31, .ref pg32, .ref pg33, .ref pg34, .ref pg35, .ref pg36, .ref pg37, .ref pg38, .ref pg39, .ref pg40, .ref pg41, .ref pg42, .ref pg43, .ref pg44, .ref pg45, .int 0, .int 0, .int 0, .int 0, .int 0, .long 0, .int 0, .int 0, .int 0, .int 0, .int 0, .int (-1), .int 0, .ref pg46, .ref pg47, .ref pg48, .ref pg49, .ref pg50, .int 0, .int 0, .ref pg51, .ref pg52, .ref pg53, .ref pg54, .ref pg55, .ref pg56, .ref pg57, .ref pg58, .int 0, .int 0, .int 0, .int 0, .ref pg59, .ref pg60, .int 0, .ref pg61, .ref pg62, .ref pg63, .ref pg64, .ref pg65, .ref pg66]))]) B inlX12 tyX12_ok nmX12 hP hD hS 0 rfl rfl 0 rfl mfl_X12_224 rfl rfl rfl rfl rfl rfl dX12_dug_2 (fun H locs hP hD hS => ?_)
  refine lv_aload_n hx hb dX12_dug_5 rfl (lv_at hl 0 rfl) ?_
  refine lv_iload_n hx hb dX12_dug_6 rfl (lv_at hl 1 rfl) ?_
  refine lv_pc (q := 7) rfl ?_
  refine uVi (As := [.int px67]) (rest := []) (wr := []) [(ph0, .inr (12, [.int 0, .int 4, .int 4, .ref pg1, .ref pg2, .ref pg3, .ref pg4, .int 0, .ref pg5, .ref pg6, .int 0, .ref pg7, .ref pg8, .ref pg9, .ref pg10, .ref pg11, .ref pg12, .ref pg13, .int 0, .ref pg14, .ref pg15, .ref pg16, .ref pg17, .ref pg18, .ref pg19, .int 0, .ref pg20, .int 0, .int 0, .int 0, .ref pg21, .int 0, .int 0, .ref pg22, .int 0, .ref pg23, .ref pg24, .ref pg25, .ref pg26, .ref pg27, .ref pg28, .ref pg29, .ref pg30, .ref pg31, .ref pg32, .ref pg33, .ref pg34, .ref pg35, .ref pg36, .ref pg37, .ref pg38, .ref pg39, .ref pg40, .ref pg41, .ref pg42, .ref pg43, .ref pg44, .ref pg45, .int 0, .int 0, .int 0, .int 0, .int 0, .long 0, .int 0, .int 0, .int 0, .int 0, .int 0, .int (-1), .int 0, .ref pg46, .ref pg47, .ref pg48, .ref pg49, .ref pg50, .int 0, .int 0, .ref pg51, .ref pg52, .ref pg53, .ref pg54, .ref pg55, .ref pg56, .ref pg57, .ref pg58, .int 0, .int 0, .int 0, .int 0, .ref pg59, .ref pg60, .int 0, .ref pg61, .ref pg62, .ref pg63, .ref pg64, .ref pg65, .ref pg66]))] B hl.1 hP hD hS [0] [] rfl rfl rfl (kX12_isPost_60 l D K _ ph0 pg1 pg2 pg3 pg4 pg5 pg6 pg7 pg8 pg9 pg10 pg11 pg12 pg13 pg14 pg15 pg16 pg17 pg18 pg19 pg20 pg21 pg22 pg23 pg24 pg25 pg26 pg27 pg28 pg29 pg30 pg31 pg32 pg33 pg34 pg35 pg36 pg37 pg38 pg39 pg40 pg41 pg42 pg43 pg44 pg45 pg46 pg47 pg48 pg49 pg50 pg51 pg52 pg53 pg54 pg55 pg56 pg57 pg58 pg59 pg60 pg61 pg62 pg63 pg64 pg65 pg66 px67) wd_X12_isPost mml_X12_250 rfl rfl rfl rfl ⟨Nat.le_of_ble_eq_true rfl, Nat.le_of_ble_eq_true rfl⟩ (Nat.le_of_ble_eq_true rfl) ⟨Nat.le_of_ble_eq_true rfl, Nat.le_of_ble_eq_true rfl⟩ dX12_dug_7 (fun r1 u H locs hw hP hD hS => ?_)
  try dsimp only at hw
  rcases hw with ⟨rfl, w2⟩
  have hP : va_P D vwCl [(ph0, .inr (12, [.int 0, .int 4, .int 4, .ref pg1, .ref pg2, .ref pg3, .ref pg4, .int 0, .ref pg5, .ref pg6, .int 0, .ref pg7, .ref pg8, .ref pg9, .ref pg10, .ref pg11, .ref pg12, .ref pg13, .int 0, .ref pg14, .ref pg15, .ref pg16, .ref pg17, .ref pg18, .ref pg19, .int 0, .ref pg20, .int 0, .int 0, .int 0, .ref pg21, .int 0, .int 0, .ref pg22, .int 0, .ref pg23, .ref pg24, .ref pg25, .ref pg26, .ref pg27, .ref pg28, .ref pg29, .ref pg30, .ref pg31, .ref pg32, .ref pg33, .ref pg34, .ref pg35, .ref pg36, .ref pg37, .ref pg38, .ref pg39, .ref pg40, .ref pg41, .ref pg42, .ref pg43, .ref pg44, .ref pg45, .int 0, .int 0, .int 0, .int 0, .int 0, .long 0, .int 0, .int 0, .int 0, .int 0, .int 0, .int (-1), .int 0, .ref pg46, .ref pg47, .ref pg48, .ref pg49, .ref pg50, .int 0, .int 0, .ref pg51, .ref pg52, .ref pg53, .ref pg54, .ref pg55, .ref pg56, .ref pg57, .ref pg58, .int 0, .int 0, .int 0, .int 0, .ref pg59, .ref pg60, .int 0, .ref pg61, .ref pg62, .ref pg63, .ref pg64, .ref pg65, .ref pg66]))] H := hP
  have hD : va_D A [(ph0, .inr (12, [.int 0, .int 4, .int 4, .ref pg1, .ref pg2, .ref pg3, .ref pg4, .int 0, .ref pg5, .ref pg6, .int 0, .ref pg7, .ref pg8, .ref pg9, .ref pg10, .ref pg11, .ref pg12, .ref pg13, .int 0, .ref pg14, .ref pg15, .ref pg16, .ref pg17, .ref pg18, .ref pg19, .int 0, .ref pg20, .int 0, .int 0, .int 0, .ref pg21, .int 0, .int 0, .ref pg22, .int 0, .ref pg23, .ref pg24, .ref pg25, .ref pg26, .ref pg27, .ref pg28, .ref pg29, .ref pg30, .ref pg31, .ref pg32, .ref pg33, .ref pg34, .ref pg35, .ref pg36, .ref pg37, .ref pg38, .ref pg39, .ref pg40, .ref pg41, .ref pg42, .ref pg43, .ref pg44, .ref pg45, .int 0, .int 0, .int 0, .int 0, .int 0, .long 0, .int 0, .int 0, .int 0, .int 0, .int 0, .int (-1), .int 0, .ref pg46, .ref pg47, .ref pg48, .ref pg49, .ref pg50, .int 0, .int 0, .ref pg51, .ref pg52, .ref pg53, .ref pg54, .ref pg55, .ref pg56, .ref pg57, .ref pg58, .int 0, .int 0, .int 0, .int 0, .ref pg59, .ref pg60, .int 0, .ref pg61, .ref pg62, .ref pg63, .ref pg64, .ref pg65, .ref pg66]))] := hD
  refine lv_if_eq (tgt := 23) hx hb dX12_dug_10 (by decide) (fun _ => ?_) (fun h9 => absurd (by decide) h9)
  refine lv_iconst (v := 0) hx hb dX12_dug_23 (by decide) ?_
  exact uRz () B rfl ⟨rfl, w2⟩ (uSub hP [] rfl) (hD.sub [] rfl rfl) hS dX12_dug_24
def qkX11_dug_126 (ph0 : Nat) (ph1 : Nat) (pg2 : Nat) (pg3 : Nat) (pg4 : Nat) (pg5 : Nat) (pg6 : Nat) (pg7 : Nat) (pg8 : Nat) (pg9 : Nat) (pg10 : Nat) (pg11 : Nat) (pg12 : Nat) (pg13 : Nat) (pg14 : Nat) (pg15 : Nat) (pg16 : Nat) (pg17 : Nat) (pg18 : Nat) (pg19 : Nat) (px20 : Int32) : Int32 → (Unit) → Prop := (fun (r : Int32) (u : Unit) => r = 0 ∧ (((px20 < 0) ∨ (¬ px20 < 0))))
def vkX11_dug_126 (K : Nat → ClassId) (ph0 : Nat) (ph1 : Nat) (pg2 : Nat) (pg3 : Nat) (pg4 : Nat) (pg5 : Nat) (pg6 : Nat) (pg7 : Nat) (pg8 : Nat) (pg9 : Nat) (pg10 : Nat) (pg11 : Nat) (pg12 : Nat) (pg13 : Nat) (pg14 : Nat) (pg15 : Nat) (pg16 : Nat) (pg17 : Nat) (pg18 : Nat) (pg19 : Nat) (px20 : Int32) : (Unit) → va_W := (fun (u : Unit) => [])
set_option maxHeartbeats 4000000 in
set_option maxRecDepth 100000 in
theorem kX11_dug_126 (l : Launch) (D : va_G) (K : Nat → ClassId) (sz : Nat) (ph0 : Nat) (ph1 : Nat) (pg2 : Nat) (pg3 : Nat) (pg4 : Nat) (pg5 : Nat) (pg6 : Nat) (pg7 : Nat) (pg8 : Nat) (pg9 : Nat) (pg10 : Nat) (pg11 : Nat) (pg12 : Nat) (pg13 : Nat) (pg14 : Nat) (pg15 : Nat) (pg16 : Nat) (pg17 : Nat) (pg18 : Nat) (pg19 : Nat) (px20 : Int32) : uMi l yX11_dug cX11_dug 3 (some .boolean) { frames := 1, cells := 0, slots := 0, locals := 21 } [.ref ph0, .int px20, .int 1] D K [(ph0, .inr (11, [.ref pg2, .ref ph1, .ref pg3, .ref pg4, .ref pg5, .ref pg6, .ref pg7, .ref pg8, .ref pg9, .ref pg10, .ref pg11])), (ph1, .inr (4, [.ref pg2, .ref pg12, .ref pg13, .ref pg14, .ref pg15, .ref pg16, .ref pg17, .ref pg18, .ref pg19, .int 0]))] sz (qkX11_dug_126 ph0 ph1 pg2 pg3 pg4 pg5 pg6 pg7 pg8 pg9 pg10 pg11 pg12 pg13 pg14 pg15 pg16 pg17 pg18 pg19 px20) (vkX11_dug_126 K ph0 ph1 pg2 pg3 pg4 pg5 pg6 pg7 pg8 pg9 pg10 pg11 pg12 pg13 pg14 pg15 pg16 pg17 pg18 pg19 px20) := by
  refine uMet (Qc := uQi D (qkX11_dug_126 ph0 ph1 pg2 pg3 pg4 pg5 pg6 pg7 pg8 pg9 pg10 pg11 pg12 pg13 pg14 pg15 pg16 pg17 pg18 pg19 px20) (vkX11_dug_126 K ph0 ph1 pg2 pg3 pg4 pg5 pg6 pg7 pg8 pg9 pg10 pg11 pg12 pg13 pg14 pg15 pg16 pg17 pg18 pg19 px20)) (ret := (some .boolean)) (by decide) (Nat.le_of_ble_eq_true rfl) ?_
  intro p e s m below meth c A ls hAe hsz B hP hD hS hl
  have hx := B.1
  have hb := B.2.1
  have hl : lv_has ls 3 [(0, .ref ph0), (1, .int px20), (2, .int 1)] := hl
  refine lv_aload_n hx hb dX11_dug_0 rfl (lv_at hl 0 rfl) ?_
  refine uGet (ci := 11) (C := RX11) (T := TX11) (N := 11) (v := .ref ph1) B inlX11 hP 0 rfl rfl 1 rfl mfl_X11_21 rfl rfl dX11_dug_1 ?_
  refine lv_iload_n hx hb dX11_dug_4 rfl (lv_at hl 1 rfl) ?_
  refine uVi (As := [.int px20]) (rest := []) (wr := [(ph0, .inr (11, [.ref pg2, .ref ph1, .ref pg3, .ref pg4, .ref pg5, .ref pg6, .ref pg7, .ref pg8, .ref pg9, .ref pg10, .ref pg11]))]) [(ph1, .inr (4, [.ref pg2, .ref pg12, .ref pg13, .ref pg14, .ref pg15, .ref pg16, .ref pg17, .ref pg18, .ref pg19, .int 0]))] B hl.1 hP hD hS [1] [0] rfl rfl rfl (kX4_has_56 l D K _ ph1 pg2 pg12 pg13 pg14 pg15 pg16 pg17 pg18 pg19 px20) wd_X4_has mml_X11_157 rfl rfl rfl rfl ⟨Nat.le_of_ble_eq_true rfl, Nat.le_of_ble_eq_true rfl⟩ (Nat.le_of_ble_eq_true rfl) ⟨Nat.le_of_ble_eq_true rfl, Nat.le_of_ble_eq_true rfl⟩ dX11_dug_5 (fun r1 u H locs hw hP hD hS => ?_)
  try dsimp only at hw
  rcases hw with ⟨rfl, w2⟩
  have hP : va_P D vwCl [(ph0, .inr (11, [.ref pg2, .ref ph1, .ref pg3, .ref pg4, .ref pg5, .ref pg6, .ref pg7, .ref pg8, .ref pg9, .ref pg10, .ref pg11])), (ph1, .inr (4, [.ref pg2, .ref pg12, .ref pg13, .ref pg14, .ref pg15, .ref pg16, .ref pg17, .ref pg18, .ref pg19, .int 0]))] H := hP
  have hD : va_D A [(ph0, .inr (11, [.ref pg2, .ref ph1, .ref pg3, .ref pg4, .ref pg5, .ref pg6, .ref pg7, .ref pg8, .ref pg9, .ref pg10, .ref pg11])), (ph1, .inr (4, [.ref pg2, .ref pg12, .ref pg13, .ref pg14, .ref pg15, .ref pg16, .ref pg17, .ref pg18, .ref pg19, .int 0]))] := hD
  refine lv_if_eq (tgt := 24) hx hb dX11_dug_8 (by decide) (fun _ => ?_) (fun h9 => absurd (by decide) h9)
  refine lv_pc (q := 24) rfl ?_
  refine lv_iconst (v := 0) hx hb dX11_dug_24 (by decide) ?_
  exact uRz () B rfl ⟨rfl, w2⟩ (uSub hP [] rfl) (hD.sub [] rfl rfl) hS dX11_dug_25
def qkX12_dug_127 (ph0 : Nat) (pg1 : Nat) (pg2 : Nat) (pg3 : Nat) (pg4 : Nat) (pg5 : Nat) (pg6 : Nat) (pg7 : Nat) (pg8 : Nat) (pg9 : Nat) (pg10 : Nat) (pg11 : Nat) (pg12 : Nat) (pg13 : Nat) (pg14 : Nat) (pg15 : Nat) (pg16 : Nat) (pg17 : Nat) (pg18 : Nat) (pg19 : Nat) (pg20 : Nat) (pg21 : Nat) (pg22 : Nat) (pg23 : Nat) (pg24 : Nat) (pg25 : Nat) (pg26 : Nat) (pg27 : Nat) (pg28 : Nat) (pg29 : Nat) (pg30 : Nat) (pg31 : Nat) (pg32 : Nat) (pg33 : Nat) (pg34 : Nat) (pg35 : Nat) (pg36 : Nat) (pg37 : Nat) (pg38 : Nat) (pg39 : Nat) (pg40 : Nat) (pg41 : Nat) (pg42 : Nat) (pg43 : Nat) (pg44 : Nat) (pg45 : Nat) (pg46 : Nat) (pg47 : Nat) (pg48 : Nat) (pg49 : Nat) (pg50 : Nat) (pg51 : Nat) (pg52 : Nat) (pg53 : Nat) (pg54 : Nat) (pg55 : Nat) (pg56 : Nat) (pg57 : Nat) (pg58 : Nat) (pg59 : Nat) (pg60 : Nat) (pg61 : Nat) (pg62 : Nat) (pg63 : Nat) (pg64 : Nat) (pg65 : Nat) (pg66 : Nat) (px67 : Int32) : Int32 → (Unit) → Prop := (fun (r : Int32) (u : Unit) => r = 0 ∧ (((px67 < 0) ∨ (¬ px67 < 0))))
def vkX12_dug_127 (K : Nat → ClassId) (ph0 : Nat) (pg1 : Nat) (pg2 : Nat) (pg3 : Nat) (pg4 : Nat) (pg5 : Nat) (pg6 : Nat) (pg7 : Nat) (pg8 : Nat) (pg9 : Nat) (pg10 : Nat) (pg11 : Nat) (pg12 : Nat) (pg13 : Nat) (pg14 : Nat) (pg15 : Nat) (pg16 : Nat) (pg17 : Nat) (pg18 : Nat) (pg19 : Nat) (pg20 : Nat) (pg21 : Nat) (pg22 : Nat) (pg23 : Nat) (pg24 : Nat) (pg25 : Nat) (pg26 : Nat) (pg27 : Nat) (pg28 : Nat) (pg29 : Nat) (pg30 : Nat) (pg31 : Nat) (pg32 : Nat) (pg33 : Nat) (pg34 : Nat) (pg35 : Nat) (pg36 : Nat) (pg37 : Nat) (pg38 : Nat) (pg39 : Nat) (pg40 : Nat) (pg41 : Nat) (pg42 : Nat) (pg43 : Nat) (pg44 : Nat) (pg45 : Nat) (pg46 : Nat) (pg47 : Nat) (pg48 : Nat) (pg49 : Nat) (pg50 : Nat) (pg51 : Nat) (pg52 : Nat) (pg53 : Nat) (pg54 : Nat) (pg55 : Nat) (pg56 : Nat) (pg57 : Nat) (pg58 : Nat) (pg59 : Nat) (pg60 : Nat) (pg61 : Nat) (pg62 : Nat) (pg63 : Nat) (pg64 : Nat) (pg65 : Nat) (pg66 : Nat) (px67 : Int32) : (Unit) → va_W := (fun (u : Unit) => [])
set_option maxHeartbeats 4000000 in
set_option maxRecDepth 100000 in
theorem kX12_dug_127 (l : Launch) (D : va_G) (K : Nat → ClassId) (sz : Nat) (ph0 : Nat) (pg1 : Nat) (pg2 : Nat) (pg3 : Nat) (pg4 : Nat) (pg5 : Nat) (pg6 : Nat) (pg7 : Nat) (pg8 : Nat) (pg9 : Nat) (pg10 : Nat) (pg11 : Nat) (pg12 : Nat) (pg13 : Nat) (pg14 : Nat) (pg15 : Nat) (pg16 : Nat) (pg17 : Nat) (pg18 : Nat) (pg19 : Nat) (pg20 : Nat) (pg21 : Nat) (pg22 : Nat) (pg23 : Nat) (pg24 : Nat) (pg25 : Nat) (pg26 : Nat) (pg27 : Nat) (pg28 : Nat) (pg29 : Nat) (pg30 : Nat) (pg31 : Nat) (pg32 : Nat) (pg33 : Nat) (pg34 : Nat) (pg35 : Nat) (pg36 : Nat) (pg37 : Nat) (pg38 : Nat) (pg39 : Nat) (pg40 : Nat) (pg41 : Nat) (pg42 : Nat) (pg43 : Nat) (pg44 : Nat) (pg45 : Nat) (pg46 : Nat) (pg47 : Nat) (pg48 : Nat) (pg49 : Nat) (pg50 : Nat) (pg51 : Nat) (pg52 : Nat) (pg53 : Nat) (pg54 : Nat) (pg55 : Nat) (pg56 : Nat) (pg57 : Nat) (pg58 : Nat) (pg59 : Nat) (pg60 : Nat) (pg61 : Nat) (pg62 : Nat) (pg63 : Nat) (pg64 : Nat) (pg65 : Nat) (pg66 : Nat) (px67 : Int32) : uMi l yX12_dug cX12_dug 3 (some .boolean) { frames := 1, cells := 0, slots := 0, locals := 21 } [.ref ph0, .int px67, .int 1] D K [(ph0, .inr (12, [.int 0, .int 4, .int 4, .ref pg1, .ref pg2, .ref pg3, .ref pg4, .int 0, .ref pg5, .ref pg6, .int 0, .ref pg7, .ref pg8, .ref pg9, .ref pg10, .ref pg11, .ref pg12, .ref pg13, .int 0, .ref pg14, .ref pg15, .ref pg16, .ref pg17, .ref pg18, .ref pg19, .int 0, .ref pg20, .int 0, .int 0, .int 0, .ref pg21, .int 0, .int 0, .ref pg22, .int 0, .ref pg23, .ref pg24, .ref pg25, .ref pg26, .ref pg27, .ref pg28, .ref pg29, .ref pg30, .ref pg31, .ref pg32, .ref pg33, .ref pg34, .ref pg35, .ref pg36, .ref pg37, .ref pg38, .ref pg39, .ref pg40, .ref pg41, .ref pg42, .ref pg43, .ref pg44, .ref pg45, .int 0, .int 0, .int 0, .int 0, .int 0, .long 0, .int 0, .int 0, .int 0, .int 0, .int 0, .int (-1), .int 0, .ref pg46, .ref pg47, .ref pg48, .ref pg49, .ref pg50, .int 0, .int 0, .ref pg51, .ref pg52, .ref pg53, .ref pg54, .ref pg55, .ref pg56, .ref pg57, .ref pg58, .int 0, .int 0, .int 0, .int 0, .ref pg59, .ref pg60, .int 0, .ref pg61, .ref pg62, .ref pg63, .ref pg64, .ref pg65, .ref pg66]))] sz (qkX12_dug_127 ph0 pg1 pg2 pg3 pg4 pg5 pg6 pg7 pg8 pg9 pg10 pg11 pg12 pg13 pg14 pg15 pg16 pg17 pg18 pg19 pg20 pg21 pg22 pg23 pg24 pg25 pg26 pg27 pg28 pg29 pg30 pg31 pg32 pg33 pg34 pg35 pg36 pg37 pg38 pg39 pg40 pg41 pg42 pg43 pg44 pg45 pg46 pg47 pg48 pg49 pg50 pg51 pg52 pg53 pg54 pg55 pg56 pg57 pg58 pg59 pg60 pg61 pg62 pg63 pg64 pg65 pg66 px67) (vkX12_dug_127 K ph0 pg1 pg2 pg3 pg4 pg5 pg6 pg7 pg8 pg9 pg10 pg11 pg12 pg13 pg14 pg15 pg16 pg17 pg18 pg19 pg20 pg21 pg22 pg23 pg24 pg25 pg26 pg27 pg28 pg29 pg30 pg31 pg32 pg33 pg34 pg35 pg36 pg37 pg38 pg39 pg40 pg41 pg42 pg43 pg44 pg45 pg46 pg47 pg48 pg49 pg50 pg51 pg52 pg53 pg54 pg55 pg56 pg57 pg58 pg59 pg60 pg61 pg62 pg63 pg64 pg65 pg66 px67) := by
  refine uMet (Qc := uQi D (qkX12_dug_127 ph0 pg1 pg2 pg3 pg4 pg5 pg6 pg7 pg8 pg9 pg10 pg11 pg12 pg13 pg14 pg15 pg16 pg17 pg18 pg19 pg20 pg21 pg22 pg23 pg24 pg25 pg26 pg27 pg28 pg29 pg30 pg31 pg32 pg33 pg34 pg35 pg36 pg37 pg38 pg39 pg40 pg41 pg42 pg43 pg44 pg45 pg46 pg47 pg48 pg49 pg50 pg51 pg52 pg53 pg54 pg55 pg56 pg57 pg58 pg59 pg60 pg61 pg62 pg63 pg64 pg65 pg66 px67) (vkX12_dug_127 K ph0 pg1 pg2 pg3 pg4 pg5 pg6 pg7 pg8 pg9 pg10 pg11 pg12 pg13 pg14 pg15 pg16 pg17 pg18 pg19 pg20 pg21 pg22 pg23 pg24 pg25 pg26 pg27 pg28 pg29 pg30 pg31 pg32 pg33 pg34 pg35 pg36 pg37 pg38 pg39 pg40 pg41 pg42 pg43 pg44 pg45 pg46 pg47 pg48 pg49 pg50 pg51 pg52 pg53 pg54 pg55 pg56 pg57 pg58 pg59 pg60 pg61 pg62 pg63 pg64 pg65 pg66 px67)) (ret := (some .boolean)) (by decide) (Nat.le_of_ble_eq_true rfl) ?_
  intro p e s m below meth c A ls hAe hsz B hP hD hS hl
  have hx := B.1
  have hb := B.2.1
  have hl : lv_has ls 3 [(0, .ref ph0), (1, .int px67), (2, .int 1)] := hl
  refine lv_aload_n hx hb dX12_dug_0 rfl (lv_at hl 0 rfl) ?_
  refine lv_iconst (v := 0) hx hb dX12_dug_1 (by decide) ?_
  refine uPut (ci := 12) (C := RX12) (T := TX12) (N := 99) (ws' := [(ph0, .inr (12, [.int 0, .int 4, .int 4, .ref pg1, .ref pg2, .ref pg3, .ref pg4, .int 0, .ref pg5, .ref pg6, .int 0, .ref pg7, .ref pg8, .ref pg9, .ref pg10, .ref pg11, .ref pg12, .ref pg13, .int 0, .ref pg14, .ref pg15, .ref pg16, .ref pg17, .ref pg18, .ref pg19, .int 0, .ref pg20, .int 0, .int 0, .int 0, .ref pg21, .int 0, .int 0, .ref pg22, .int 0, .ref pg23, .ref pg24, .ref pg25, .ref pg26, .ref pg27, .ref pg28, .ref pg29, .ref pg30, .ref pg31, .ref pg32, .ref pg33, .ref pg34, .ref pg35, .ref pg36, .ref pg37, .ref pg38, .ref pg39, .ref pg40, .ref pg41, .ref pg42, .ref pg43, .ref pg44, .ref pg45, .int 0, .int 0, .int 0, .int 0, .int 0, .long 0, .int 0, .int 0, .int 0, .int 0, .int 0, .int (-1), .int 0, .ref pg46, .ref pg47, .ref pg48, .ref pg49, .ref pg50, .int 0, .int 0, .ref pg51, .ref pg52, .ref pg53, .ref pg54, .ref pg55, .ref pg56, .ref pg57, .ref pg58, .int 0, .int 0, .int 0, .int 0, .ref pg59, .ref pg60, .int 0, .ref pg61, .ref pg62, .ref pg63, .ref pg64, .ref pg65, .ref pg66]))]) B inlX12 tyX12_ok nmX12 hP hD hS 0 rfl rfl 0 rfl mfl_X12_224 rfl rfl rfl rfl rfl rfl dX12_dug_2 (fun H locs hP hD hS => ?_)
  refine lv_aload_n hx hb dX12_dug_5 rfl (lv_at hl 0 rfl) ?_
  refine lv_iload_n hx hb dX12_dug_6 rfl (lv_at hl 1 rfl) ?_
  refine lv_pc (q := 7) rfl ?_
  refine uVi (As := [.int px67]) (rest := []) (wr := []) [(ph0, .inr (12, [.int 0, .int 4, .int 4, .ref pg1, .ref pg2, .ref pg3, .ref pg4, .int 0, .ref pg5, .ref pg6, .int 0, .ref pg7, .ref pg8, .ref pg9, .ref pg10, .ref pg11, .ref pg12, .ref pg13, .int 0, .ref pg14, .ref pg15, .ref pg16, .ref pg17, .ref pg18, .ref pg19, .int 0, .ref pg20, .int 0, .int 0, .int 0, .ref pg21, .int 0, .int 0, .ref pg22, .int 0, .ref pg23, .ref pg24, .ref pg25, .ref pg26, .ref pg27, .ref pg28, .ref pg29, .ref pg30, .ref pg31, .ref pg32, .ref pg33, .ref pg34, .ref pg35, .ref pg36, .ref pg37, .ref pg38, .ref pg39, .ref pg40, .ref pg41, .ref pg42, .ref pg43, .ref pg44, .ref pg45, .int 0, .int 0, .int 0, .int 0, .int 0, .long 0, .int 0, .int 0, .int 0, .int 0, .int 0, .int (-1), .int 0, .ref pg46, .ref pg47, .ref pg48, .ref pg49, .ref pg50, .int 0, .int 0, .ref pg51, .ref pg52, .ref pg53, .ref pg54, .ref pg55, .ref pg56, .ref pg57, .ref pg58, .int 0, .int 0, .int 0, .int 0, .ref pg59, .ref pg60, .int 0, .ref pg61, .ref pg62, .ref pg63, .ref pg64, .ref pg65, .ref pg66]))] B hl.1 hP hD hS [0] [] rfl rfl rfl (kX12_isPost_60 l D K _ ph0 pg1 pg2 pg3 pg4 pg5 pg6 pg7 pg8 pg9 pg10 pg11 pg12 pg13 pg14 pg15 pg16 pg17 pg18 pg19 pg20 pg21 pg22 pg23 pg24 pg25 pg26 pg27 pg28 pg29 pg30 pg31 pg32 pg33 pg34 pg35 pg36 pg37 pg38 pg39 pg40 pg41 pg42 pg43 pg44 pg45 pg46 pg47 pg48 pg49 pg50 pg51 pg52 pg53 pg54 pg55 pg56 pg57 pg58 pg59 pg60 pg61 pg62 pg63 pg64 pg65 pg66 px67) wd_X12_isPost mml_X12_250 rfl rfl rfl rfl ⟨Nat.le_of_ble_eq_true rfl, Nat.le_of_ble_eq_true rfl⟩ (Nat.le_of_ble_eq_true rfl) ⟨Nat.le_of_ble_eq_true rfl, Nat.le_of_ble_eq_true rfl⟩ dX12_dug_7 (fun r1 u H locs hw hP hD hS => ?_)
  try dsimp only at hw
  rcases hw with ⟨rfl, w2⟩
  have hP : va_P D vwCl [(ph0, .inr (12, [.int 0, .int 4, .int 4, .ref pg1, .ref pg2, .ref pg3, .ref pg4, .int 0, .ref pg5, .ref pg6, .int 0, .ref pg7, .ref pg8, .ref pg9, .ref pg10, .ref pg11, .ref pg12, .ref pg13, .int 0, .ref pg14, .ref pg15, .ref pg16, .ref pg17, .ref pg18, .ref pg19, .int 0, .ref pg20, .int 0, .int 0, .int 0, .ref pg21, .int 0, .int 0, .ref pg22, .int 0, .ref pg23, .ref pg24, .ref pg25, .ref pg26, .ref pg27, .ref pg28, .ref pg29, .ref pg30, .ref pg31, .ref pg32, .ref pg33, .ref pg34, .ref pg35, .ref pg36, .ref pg37, .ref pg38, .ref pg39, .ref pg40, .ref pg41, .ref pg42, .ref pg43, .ref pg44, .ref pg45, .int 0, .int 0, .int 0, .int 0, .int 0, .long 0, .int 0, .int 0, .int 0, .int 0, .int 0, .int (-1), .int 0, .ref pg46, .ref pg47, .ref pg48, .ref pg49, .ref pg50, .int 0, .int 0, .ref pg51, .ref pg52, .ref pg53, .ref pg54, .ref pg55, .ref pg56, .ref pg57, .ref pg58, .int 0, .int 0, .int 0, .int 0, .ref pg59, .ref pg60, .int 0, .ref pg61, .ref pg62, .ref pg63, .ref pg64, .ref pg65, .ref pg66]))] H := hP
  have hD : va_D A [(ph0, .inr (12, [.int 0, .int 4, .int 4, .ref pg1, .ref pg2, .ref pg3, .ref pg4, .int 0, .ref pg5, .ref pg6, .int 0, .ref pg7, .ref pg8, .ref pg9, .ref pg10, .ref pg11, .ref pg12, .ref pg13, .int 0, .ref pg14, .ref pg15, .ref pg16, .ref pg17, .ref pg18, .ref pg19, .int 0, .ref pg20, .int 0, .int 0, .int 0, .ref pg21, .int 0, .int 0, .ref pg22, .int 0, .ref pg23, .ref pg24, .ref pg25, .ref pg26, .ref pg27, .ref pg28, .ref pg29, .ref pg30, .ref pg31, .ref pg32, .ref pg33, .ref pg34, .ref pg35, .ref pg36, .ref pg37, .ref pg38, .ref pg39, .ref pg40, .ref pg41, .ref pg42, .ref pg43, .ref pg44, .ref pg45, .int 0, .int 0, .int 0, .int 0, .int 0, .long 0, .int 0, .int 0, .int 0, .int 0, .int 0, .int (-1), .int 0, .ref pg46, .ref pg47, .ref pg48, .ref pg49, .ref pg50, .int 0, .int 0, .ref pg51, .ref pg52, .ref pg53, .ref pg54, .ref pg55, .ref pg56, .ref pg57, .ref pg58, .int 0, .int 0, .int 0, .int 0, .ref pg59, .ref pg60, .int 0, .ref pg61, .ref pg62, .ref pg63, .ref pg64, .ref pg65, .ref pg66]))] := hD
  refine lv_if_eq (tgt := 23) hx hb dX12_dug_10 (by decide) (fun _ => ?_) (fun h9 => absurd (by decide) h9)
  refine lv_iconst (v := 0) hx hb dX12_dug_23 (by decide) ?_
  exact uRz () B rfl ⟨rfl, w2⟩ (uSub hP [] rfl) (hD.sub [] rfl rfl) hS dX12_dug_24
def qkX10_hasRoom_128 (ph0 : Nat) (pg1 : Nat) (pg2 : Nat) : Int32 → (Unit) → Prop := (fun (r : Int32) (u : Unit) => r = 1)
def vkX10_hasRoom_128 (K : Nat → ClassId) (ph0 : Nat) (pg1 : Nat) (pg2 : Nat) : (Unit) → va_W := (fun (u : Unit) => [(ph0, .inr (10, [.ref pg1, .ref pg2, .int 0, .int 0, .int 0, .int 0, .int 0, .int 0, .long 0, .int (-1)]))])
set_option maxHeartbeats 4000000 in
set_option maxRecDepth 100000 in
theorem kX10_hasRoom_128 (l : Launch) (D : va_G) (K : Nat → ClassId) (sz : Nat) (ph0 : Nat) (pg1 : Nat) (pg2 : Nat) : uMi l yX10_hasRoom cX10_hasRoom 1 (some .boolean) { frames := 0, cells := 0, slots := 0, locals := 0 } [.ref ph0] D K [(ph0, .inr (10, [.ref pg1, .ref pg2, .int 0, .int 0, .int 0, .int 0, .int 0, .int 0, .long 0, .int (-1)]))] sz (qkX10_hasRoom_128 ph0 pg1 pg2) (vkX10_hasRoom_128 K ph0 pg1 pg2) := by
  refine uMet (Qc := uQi D (qkX10_hasRoom_128 ph0 pg1 pg2) (vkX10_hasRoom_128 K ph0 pg1 pg2)) (ret := (some .boolean)) (by decide) (Nat.le_of_ble_eq_true rfl) ?_
  intro p e s m below meth c A ls hAe hsz B hP hD hS hl
  have hx := B.1
  have hb := B.2.1
  have hl : lv_has ls 1 [(0, .ref ph0)] := hl
  refine lv_aload_n hx hb dX10_hasRoom_0 rfl (lv_at hl 0 rfl) ?_
  refine uGet (ci := 10) (C := RX10) (T := TX10) (N := 10) (v := .int 0) B inlX10 hP 0 rfl rfl 2 rfl mfl_X10_19 rfl rfl dX10_hasRoom_1 ?_
  refine lv_bipush (v := 20) hx hb dX10_hasRoom_4 (by decide) ?_
  refine lv_iadd hx hb dX10_hasRoom_6 ?_
  refine lv_fixi (y := 20) (by decide) ?_
  refine lv_sipush (v := 1000) hx hb dX10_hasRoom_7 (by decide) ?_
  refine lv_pc (q := 10) rfl ?_
  refine lv_icmp_gt (tgt := 17) hx hb dX10_hasRoom_10 (by decide) (fun h9 => absurd h9 (by decide)) (fun _ => ?_)
  refine lv_iconst (v := 1) hx hb dX10_hasRoom_13 (by decide) ?_
  refine lv_goto (tgt := 18) hx hb dX10_hasRoom_14 (by decide) ?_
  exact uRz () B rfl rfl (uSub hP [0] rfl) (hD.sub [0] rfl rfl) hS dX10_hasRoom_18
def qkX10_append_129 (ph0 : Nat) (ph1 : Nat) (pg2 : Nat) (pf3 : Nat → Int32) (px4 : Int32) : ((Nat → Int32)) → Prop := (fun (u : (Nat → Int32)) => True)
def vkX10_append_129 (K : Nat → ClassId) (ph0 : Nat) (ph1 : Nat) (pg2 : Nat) (pf3 : Nat → Int32) (px4 : Int32) : ((Nat → Int32)) → va_W := (fun (u : (Nat → Int32)) => [(ph0, .inr (10, [.ref ph1, .ref pg2, .int 4, .int 0, .int 0, .int 0, .int 0, .int 0, .long 0, .int (-1)])), (ph1, .inl (K 0, 1000, .inl u))])
set_option maxHeartbeats 4000000 in
set_option maxRecDepth 100000 in
theorem kX10_append_129 (l : Launch) (D : va_G) (K : Nat → ClassId) (sz : Nat) (ph0 : Nat) (ph1 : Nat) (pg2 : Nat) (pf3 : Nat → Int32) (px4 : Int32) : uMv l yX10_append cX10_append 3 { frames := 0, cells := 0, slots := 0, locals := 0 } [.ref ph0, .int px4] D K [(ph0, .inr (10, [.ref ph1, .ref pg2, .int 0, .int 0, .int 0, .int 0, .int 0, .int 0, .long 0, .int (-1)])), (ph1, .inl (K 0, 1000, .inl pf3))] sz (qkX10_append_129 ph0 ph1 pg2 pf3 px4) (vkX10_append_129 K ph0 ph1 pg2 pf3 px4) := by
  refine uMet (Qc := uQv D (qkX10_append_129 ph0 ph1 pg2 pf3 px4) (vkX10_append_129 K ph0 ph1 pg2 pf3 px4)) (ret := none) (by decide) (Nat.le_of_ble_eq_true rfl) ?_
  intro p e s m below meth c A ls hAe hsz B hP hD hS hl
  have hx := B.1
  have hb := B.2.1
  have hl : lv_has ls 3 [(0, .ref ph0), (1, .int px4)] := hl
  refine lv_bipush (v := 24) hx hb dX10_append_0 (by decide) ?_
  refine lv_istore_n (lv' := [(2, .int 24), (0, .ref ph0), (1, .int px4)]) hx hb dX10_append_2 rfl hl (by decide) rfl (fun ls hl => ?_)
  refine lv_iload_n hx hb dX10_append_3 rfl (lv_at hl 0 rfl) ?_
  refine lv_if_lt (tgt := 49) hx hb dX10_append_4 (by decide) (fun h9 => absurd h9 (by decide)) (fun _ => ?_)
  refine lv_aload_n hx hb dX10_append_7 rfl (lv_at hl 1 rfl) ?_
  refine lv_pc (q := 8) rfl ?_
  refine uGet (ci := 10) (C := RX10) (T := TX10) (N := 10) (v := .int 0) B inlX10 hP 0 rfl rfl 2 rfl mfl_X10_19 rfl rfl dX10_append_8 ?_
  refine lv_sipush (v := 1000) hx hb dX10_append_11 (by decide) ?_
  refine lv_icmp_ge (tgt := 49) hx hb dX10_append_14 (by decide) (fun h9 => absurd h9 (by decide)) (fun _ => ?_)
  refine lv_aload_n hx hb dX10_append_17 rfl (lv_at hl 1 rfl) ?_
  refine uGet (ci := 10) (C := RX10) (T := TX10) (N := 10) (v := .ref ph1) B inlX10 hP 0 rfl rfl 0 rfl mfl_X10_9 rfl rfl dX10_append_18 ?_
  refine lv_aload_n hx hb dX10_append_21 rfl (lv_at hl 1 rfl) ?_
  refine lv_pc (q := 22) rfl ?_
  refine uGet (ci := 10) (C := RX10) (T := TX10) (N := 10) (v := .int 0) B inlX10 hP 0 rfl rfl 2 rfl mfl_X10_19 rfl rfl dX10_append_22 ?_
  refine lv_iload_n hx hb dX10_append_25 rfl (lv_at hl 2 rfl) ?_
  refine lv_iload_n hx hb dX10_append_26 rfl (lv_at hl 0 rfl) ?_
  refine lv_ishr hx hb dX10_append_27 ?_
  refine lv_sipush (v := 255) hx hb dX10_append_28 (by decide) ?_
  refine lv_iand hx hb dX10_append_31 ?_
  refine lv_pc (q := 32) rfl ?_
  refine uIast (i := 0) (j := 0) (ws' := [(ph0, .inr (10, [.ref ph1, .ref pg2, .int 0, .int 0, .int 0, .int 0, .int 0, .int 0, .long 0, .int (-1)])), (ph1, .inl (K 0, 1000, .inl (upd pf3 0 ((px4 >>> (24 &&& 31)) &&& 255))))]) B hP hD hS 1 rfl (by decide) rfl rfl dX10_append_32 (fun H locs hP hD hS => ?_)
  refine lv_aload_n hx hb dX10_append_33 rfl (lv_at hl 1 rfl) ?_
  refine lv_dup hx hb dX10_append_34 rfl ?_
  refine uGet (ci := 10) (C := RX10) (T := TX10) (N := 10) (v := .int 0) B inlX10 hP 0 rfl rfl 2 rfl mfl_X10_19 rfl rfl dX10_append_35 ?_
  refine lv_iconst (v := 1) hx hb dX10_append_38 (by decide) ?_
  refine lv_iadd hx hb dX10_append_39 ?_
  refine lv_fixi (y := 1) (by decide) ?_
  refine lv_pc (q := 40) rfl ?_
  refine uPut (ci := 10) (C := RX10) (T := TX10) (N := 10) (ws' := [(ph0, .inr (10, [.ref ph1, .ref pg2, .int 1, .int 0, .int 0, .int 0, .int 0, .int 0, .long 0, .int (-1)])), (ph1, .inl (K 0, 1000, .inl (upd pf3 0 ((px4 >>> (24 &&& 31)) &&& 255))))]) B inlX10 tyX10_ok nmX10 hP hD hS 0 rfl rfl 2 rfl mfl_X10_19 rfl rfl rfl rfl rfl rfl dX10_append_40 (fun H locs hP hD hS => ?_)
  refine lv_iinc (v := 16) (lv' := [(2, .int 16), (0, .ref ph0), (1, .int px4)]) hx hb dX10_append_43 hl (k := 0) rfl (by decide) (by decide) rfl (fun ls hl => ?_)
  refine lv_goto (tgt := 3) hx hb dX10_append_46 (by decide) ?_
  refine lv_iload_n hx hb dX10_append_3 rfl (lv_at hl 0 rfl) ?_
  refine lv_if_lt (tgt := 49) hx hb dX10_append_4 (by decide) (fun h9 => absurd h9 (by decide)) (fun _ => ?_)
  refine lv_aload_n hx hb dX10_append_7 rfl (lv_at hl 1 rfl) ?_
  refine lv_pc (q := 8) rfl ?_
  refine uGet (ci := 10) (C := RX10) (T := TX10) (N := 10) (v := .int 1) B inlX10 hP 0 rfl rfl 2 rfl mfl_X10_19 rfl rfl dX10_append_8 ?_
  refine lv_sipush (v := 1000) hx hb dX10_append_11 (by decide) ?_
  refine lv_icmp_ge (tgt := 49) hx hb dX10_append_14 (by decide) (fun h9 => absurd h9 (by decide)) (fun _ => ?_)
  refine lv_aload_n hx hb dX10_append_17 rfl (lv_at hl 1 rfl) ?_
  refine uGet (ci := 10) (C := RX10) (T := TX10) (N := 10) (v := .ref ph1) B inlX10 hP 0 rfl rfl 0 rfl mfl_X10_9 rfl rfl dX10_append_18 ?_
  refine lv_aload_n hx hb dX10_append_21 rfl (lv_at hl 1 rfl) ?_
  refine lv_pc (q := 22) rfl ?_
  refine uGet (ci := 10) (C := RX10) (T := TX10) (N := 10) (v := .int 1) B inlX10 hP 0 rfl rfl 2 rfl mfl_X10_19 rfl rfl dX10_append_22 ?_
  refine lv_iload_n hx hb dX10_append_25 rfl (lv_at hl 2 rfl) ?_
  refine lv_iload_n hx hb dX10_append_26 rfl (lv_at hl 0 rfl) ?_
  refine lv_ishr hx hb dX10_append_27 ?_
  refine lv_sipush (v := 255) hx hb dX10_append_28 (by decide) ?_
  refine lv_iand hx hb dX10_append_31 ?_
  refine lv_pc (q := 32) rfl ?_
  refine uIast (i := 1) (j := 1) (ws' := [(ph0, .inr (10, [.ref ph1, .ref pg2, .int 1, .int 0, .int 0, .int 0, .int 0, .int 0, .long 0, .int (-1)])), (ph1, .inl (K 0, 1000, .inl (upd (upd pf3 0 ((px4 >>> (24 &&& 31)) &&& 255)) 1 ((px4 >>> (16 &&& 31)) &&& 255))))]) B hP hD hS 1 rfl (by decide) rfl rfl dX10_append_32 (fun H locs hP hD hS => ?_)
  refine lv_aload_n hx hb dX10_append_33 rfl (lv_at hl 1 rfl) ?_
  refine lv_dup hx hb dX10_append_34 rfl ?_
  refine uGet (ci := 10) (C := RX10) (T := TX10) (N := 10) (v := .int 1) B inlX10 hP 0 rfl rfl 2 rfl mfl_X10_19 rfl rfl dX10_append_35 ?_
  refine lv_iconst (v := 1) hx hb dX10_append_38 (by decide) ?_
  refine lv_iadd hx hb dX10_append_39 ?_
  refine lv_fixi (y := 2) (by decide) ?_
  refine lv_pc (q := 40) rfl ?_
  refine uPut (ci := 10) (C := RX10) (T := TX10) (N := 10) (ws' := [(ph0, .inr (10, [.ref ph1, .ref pg2, .int 2, .int 0, .int 0, .int 0, .int 0, .int 0, .long 0, .int (-1)])), (ph1, .inl (K 0, 1000, .inl (upd (upd pf3 0 ((px4 >>> (24 &&& 31)) &&& 255)) 1 ((px4 >>> (16 &&& 31)) &&& 255))))]) B inlX10 tyX10_ok nmX10 hP hD hS 0 rfl rfl 2 rfl mfl_X10_19 rfl rfl rfl rfl rfl rfl dX10_append_40 (fun H locs hP hD hS => ?_)
  refine lv_iinc (v := 8) (lv' := [(2, .int 8), (0, .ref ph0), (1, .int px4)]) hx hb dX10_append_43 hl (k := 0) rfl (by decide) (by decide) rfl (fun ls hl => ?_)
  refine lv_goto (tgt := 3) hx hb dX10_append_46 (by decide) ?_
  refine lv_iload_n hx hb dX10_append_3 rfl (lv_at hl 0 rfl) ?_
  refine lv_if_lt (tgt := 49) hx hb dX10_append_4 (by decide) (fun h9 => absurd h9 (by decide)) (fun _ => ?_)
  refine lv_aload_n hx hb dX10_append_7 rfl (lv_at hl 1 rfl) ?_
  refine lv_pc (q := 8) rfl ?_
  refine uGet (ci := 10) (C := RX10) (T := TX10) (N := 10) (v := .int 2) B inlX10 hP 0 rfl rfl 2 rfl mfl_X10_19 rfl rfl dX10_append_8 ?_
  refine lv_sipush (v := 1000) hx hb dX10_append_11 (by decide) ?_
  refine lv_icmp_ge (tgt := 49) hx hb dX10_append_14 (by decide) (fun h9 => absurd h9 (by decide)) (fun _ => ?_)
  refine lv_aload_n hx hb dX10_append_17 rfl (lv_at hl 1 rfl) ?_
  refine uGet (ci := 10) (C := RX10) (T := TX10) (N := 10) (v := .ref ph1) B inlX10 hP 0 rfl rfl 0 rfl mfl_X10_9 rfl rfl dX10_append_18 ?_
  refine lv_aload_n hx hb dX10_append_21 rfl (lv_at hl 1 rfl) ?_
  refine lv_pc (q := 22) rfl ?_
  refine uGet (ci := 10) (C := RX10) (T := TX10) (N := 10) (v := .int 2) B inlX10 hP 0 rfl rfl 2 rfl mfl_X10_19 rfl rfl dX10_append_22 ?_
  refine lv_iload_n hx hb dX10_append_25 rfl (lv_at hl 2 rfl) ?_
  refine lv_iload_n hx hb dX10_append_26 rfl (lv_at hl 0 rfl) ?_
  refine lv_ishr hx hb dX10_append_27 ?_
  refine lv_sipush (v := 255) hx hb dX10_append_28 (by decide) ?_
  refine lv_iand hx hb dX10_append_31 ?_
  refine lv_pc (q := 32) rfl ?_
  refine uIast (i := 2) (j := 2) (ws' := [(ph0, .inr (10, [.ref ph1, .ref pg2, .int 2, .int 0, .int 0, .int 0, .int 0, .int 0, .long 0, .int (-1)])), (ph1, .inl (K 0, 1000, .inl (upd (upd (upd pf3 0 ((px4 >>> (24 &&& 31)) &&& 255)) 1 ((px4 >>> (16 &&& 31)) &&& 255)) 2 ((px4 >>> (8 &&& 31)) &&& 255))))]) B hP hD hS 1 rfl (by decide) rfl rfl dX10_append_32 (fun H locs hP hD hS => ?_)
  obtain ⟨f1, ef1⟩ : ∃ y : Nat → Int32, y = upd (upd (upd pf3 0 ((px4 >>> (24 &&& 31)) &&& 255)) 1 ((px4 >>> (16 &&& 31)) &&& 255)) 2 ((px4 >>> (8 &&& 31)) &&& 255) := ⟨_, rfl⟩
  rw [← ef1] at hP hD
  clear ef1
  refine lv_aload_n hx hb dX10_append_33 rfl (lv_at hl 1 rfl) ?_
  refine lv_dup hx hb dX10_append_34 rfl ?_
  refine uGet (ci := 10) (C := RX10) (T := TX10) (N := 10) (v := .int 2) B inlX10 hP 0 rfl rfl 2 rfl mfl_X10_19 rfl rfl dX10_append_35 ?_
  refine lv_iconst (v := 1) hx hb dX10_append_38 (by decide) ?_
  refine lv_iadd hx hb dX10_append_39 ?_
  refine lv_fixi (y := 3) (by decide) ?_
  refine lv_pc (q := 40) rfl ?_
  refine uPut (ci := 10) (C := RX10) (T := TX10) (N := 10) (ws' := [(ph0, .inr (10, [.ref ph1, .ref pg2, .int 3, .int 0, .int 0, .int 0, .int 0, .int 0, .long 0, .int (-1)])), (ph1, .inl (K 0, 1000, .inl f1))]) B inlX10 tyX10_ok nmX10 hP hD hS 0 rfl rfl 2 rfl mfl_X10_19 rfl rfl rfl rfl rfl rfl dX10_append_40 (fun H locs hP hD hS => ?_)
  refine lv_iinc (v := 0) (lv' := [(2, .int 0), (0, .ref ph0), (1, .int px4)]) hx hb dX10_append_43 hl (k := 0) rfl (by decide) (by decide) rfl (fun ls hl => ?_)
  refine lv_goto (tgt := 3) hx hb dX10_append_46 (by decide) ?_
  refine lv_iload_n hx hb dX10_append_3 rfl (lv_at hl 0 rfl) ?_
  refine lv_if_lt (tgt := 49) hx hb dX10_append_4 (by decide) (fun h9 => absurd h9 (by decide)) (fun _ => ?_)
  refine lv_aload_n hx hb dX10_append_7 rfl (lv_at hl 1 rfl) ?_
  refine lv_pc (q := 8) rfl ?_
  refine uGet (ci := 10) (C := RX10) (T := TX10) (N := 10) (v := .int 3) B inlX10 hP 0 rfl rfl 2 rfl mfl_X10_19 rfl rfl dX10_append_8 ?_
  refine lv_sipush (v := 1000) hx hb dX10_append_11 (by decide) ?_
  refine lv_icmp_ge (tgt := 49) hx hb dX10_append_14 (by decide) (fun h9 => absurd h9 (by decide)) (fun _ => ?_)
  refine lv_aload_n hx hb dX10_append_17 rfl (lv_at hl 1 rfl) ?_
  refine uGet (ci := 10) (C := RX10) (T := TX10) (N := 10) (v := .ref ph1) B inlX10 hP 0 rfl rfl 0 rfl mfl_X10_9 rfl rfl dX10_append_18 ?_
  refine lv_aload_n hx hb dX10_append_21 rfl (lv_at hl 1 rfl) ?_
  refine lv_pc (q := 22) rfl ?_
  refine uGet (ci := 10) (C := RX10) (T := TX10) (N := 10) (v := .int 3) B inlX10 hP 0 rfl rfl 2 rfl mfl_X10_19 rfl rfl dX10_append_22 ?_
  refine lv_iload_n hx hb dX10_append_25 rfl (lv_at hl 2 rfl) ?_
  refine lv_iload_n hx hb dX10_append_26 rfl (lv_at hl 0 rfl) ?_
  refine lv_ishr hx hb dX10_append_27 ?_
  refine lv_sipush (v := 255) hx hb dX10_append_28 (by decide) ?_
  refine lv_iand hx hb dX10_append_31 ?_
  refine lv_pc (q := 32) rfl ?_
  refine uIast (i := 3) (j := 3) (ws' := [(ph0, .inr (10, [.ref ph1, .ref pg2, .int 3, .int 0, .int 0, .int 0, .int 0, .int 0, .long 0, .int (-1)])), (ph1, .inl (K 0, 1000, .inl (upd f1 3 ((px4 >>> (0 &&& 31)) &&& 255))))]) B hP hD hS 1 rfl (by decide) rfl rfl dX10_append_32 (fun H locs hP hD hS => ?_)
  refine lv_aload_n hx hb dX10_append_33 rfl (lv_at hl 1 rfl) ?_
  refine lv_dup hx hb dX10_append_34 rfl ?_
  refine uGet (ci := 10) (C := RX10) (T := TX10) (N := 10) (v := .int 3) B inlX10 hP 0 rfl rfl 2 rfl mfl_X10_19 rfl rfl dX10_append_35 ?_
  refine lv_iconst (v := 1) hx hb dX10_append_38 (by decide) ?_
  refine lv_iadd hx hb dX10_append_39 ?_
  refine lv_fixi (y := 4) (by decide) ?_
  refine lv_pc (q := 40) rfl ?_
  refine uPut (ci := 10) (C := RX10) (T := TX10) (N := 10) (ws' := [(ph0, .inr (10, [.ref ph1, .ref pg2, .int 4, .int 0, .int 0, .int 0, .int 0, .int 0, .long 0, .int (-1)])), (ph1, .inl (K 0, 1000, .inl (upd f1 3 ((px4 >>> (0 &&& 31)) &&& 255))))]) B inlX10 tyX10_ok nmX10 hP hD hS 0 rfl rfl 2 rfl mfl_X10_19 rfl rfl rfl rfl rfl rfl dX10_append_40 (fun H locs hP hD hS => ?_)
  refine lv_iinc (v := (-8)) (lv' := [(2, .int (-8)), (0, .ref ph0), (1, .int px4)]) hx hb dX10_append_43 hl (k := 0) rfl (by decide) (by decide) rfl (fun ls hl => ?_)
  refine lv_goto (tgt := 3) hx hb dX10_append_46 (by decide) ?_
  refine lv_iload_n hx hb dX10_append_3 rfl (lv_at hl 0 rfl) ?_
  refine lv_if_lt (tgt := 49) hx hb dX10_append_4 (by decide) (fun _ => ?_) (fun h9 => absurd (by decide) h9)
  exact uRv (upd f1 3 ((px4 >>> (0 &&& 31)) &&& 255)) B trivial (uSub hP [0, 1] rfl) (hD.sub [0, 1] rfl rfl) hS dX10_append_49
def qkX10_append_130 (ph0 : Nat) (ph1 : Nat) (pg2 : Nat) (pf3 : Nat → Int32) (px4 : Int32) : ((Nat → Int32)) → Prop := (fun (u : (Nat → Int32)) => True)
def vkX10_append_130 (K : Nat → ClassId) (ph0 : Nat) (ph1 : Nat) (pg2 : Nat) (pf3 : Nat → Int32) (px4 : Int32) : ((Nat → Int32)) → va_W := (fun (u : (Nat → Int32)) => [(ph0, .inr (10, [.ref ph1, .ref pg2, .int 8, .int 0, .int 0, .int 0, .int 0, .int 0, .long 0, .int (-1)])), (ph1, .inl (K 0, 1000, .inl u))])
set_option maxHeartbeats 4000000 in
set_option maxRecDepth 100000 in
theorem kX10_append_130 (l : Launch) (D : va_G) (K : Nat → ClassId) (sz : Nat) (ph0 : Nat) (ph1 : Nat) (pg2 : Nat) (pf3 : Nat → Int32) (px4 : Int32) : uMv l yX10_append cX10_append 3 { frames := 0, cells := 0, slots := 0, locals := 0 } [.ref ph0, .int px4] D K [(ph0, .inr (10, [.ref ph1, .ref pg2, .int 4, .int 0, .int 0, .int 0, .int 0, .int 0, .long 0, .int (-1)])), (ph1, .inl (K 0, 1000, .inl pf3))] sz (qkX10_append_130 ph0 ph1 pg2 pf3 px4) (vkX10_append_130 K ph0 ph1 pg2 pf3 px4) := by
  refine uMet (Qc := uQv D (qkX10_append_130 ph0 ph1 pg2 pf3 px4) (vkX10_append_130 K ph0 ph1 pg2 pf3 px4)) (ret := none) (by decide) (Nat.le_of_ble_eq_true rfl) ?_
  intro p e s m below meth c A ls hAe hsz B hP hD hS hl
  have hx := B.1
  have hb := B.2.1
  have hl : lv_has ls 3 [(0, .ref ph0), (1, .int px4)] := hl
  refine lv_bipush (v := 24) hx hb dX10_append_0 (by decide) ?_
  refine lv_istore_n (lv' := [(2, .int 24), (0, .ref ph0), (1, .int px4)]) hx hb dX10_append_2 rfl hl (by decide) rfl (fun ls hl => ?_)
  refine lv_iload_n hx hb dX10_append_3 rfl (lv_at hl 0 rfl) ?_
  refine lv_if_lt (tgt := 49) hx hb dX10_append_4 (by decide) (fun h9 => absurd h9 (by decide)) (fun _ => ?_)
  refine lv_aload_n hx hb dX10_append_7 rfl (lv_at hl 1 rfl) ?_
  refine lv_pc (q := 8) rfl ?_
  refine uGet (ci := 10) (C := RX10) (T := TX10) (N := 10) (v := .int 4) B inlX10 hP 0 rfl rfl 2 rfl mfl_X10_19 rfl rfl dX10_append_8 ?_
  refine lv_sipush (v := 1000) hx hb dX10_append_11 (by decide) ?_
  refine lv_icmp_ge (tgt := 49) hx hb dX10_append_14 (by decide) (fun h9 => absurd h9 (by decide)) (fun _ => ?_)
  refine lv_aload_n hx hb dX10_append_17 rfl (lv_at hl 1 rfl) ?_
  refine uGet (ci := 10) (C := RX10) (T := TX10) (N := 10) (v := .ref ph1) B inlX10 hP 0 rfl rfl 0 rfl mfl_X10_9 rfl rfl dX10_append_18 ?_
  refine lv_aload_n hx hb dX10_append_21 rfl (lv_at hl 1 rfl) ?_
  refine lv_pc (q := 22) rfl ?_
  refine uGet (ci := 10) (C := RX10) (T := TX10) (N := 10) (v := .int 4) B inlX10 hP 0 rfl rfl 2 rfl mfl_X10_19 rfl rfl dX10_append_22 ?_
  refine lv_iload_n hx hb dX10_append_25 rfl (lv_at hl 2 rfl) ?_
  refine lv_iload_n hx hb dX10_append_26 rfl (lv_at hl 0 rfl) ?_
  refine lv_ishr hx hb dX10_append_27 ?_
  refine lv_sipush (v := 255) hx hb dX10_append_28 (by decide) ?_
  refine lv_iand hx hb dX10_append_31 ?_
  refine lv_pc (q := 32) rfl ?_
  refine uIast (i := 4) (j := 4) (ws' := [(ph0, .inr (10, [.ref ph1, .ref pg2, .int 4, .int 0, .int 0, .int 0, .int 0, .int 0, .long 0, .int (-1)])), (ph1, .inl (K 0, 1000, .inl (upd pf3 4 ((px4 >>> (24 &&& 31)) &&& 255))))]) B hP hD hS 1 rfl (by decide) rfl rfl dX10_append_32 (fun H locs hP hD hS => ?_)
  refine lv_aload_n hx hb dX10_append_33 rfl (lv_at hl 1 rfl) ?_
  refine lv_dup hx hb dX10_append_34 rfl ?_
  refine uGet (ci := 10) (C := RX10) (T := TX10) (N := 10) (v := .int 4) B inlX10 hP 0 rfl rfl 2 rfl mfl_X10_19 rfl rfl dX10_append_35 ?_
  refine lv_iconst (v := 1) hx hb dX10_append_38 (by decide) ?_
  refine lv_iadd hx hb dX10_append_39 ?_
  refine lv_fixi (y := 5) (by decide) ?_
  refine lv_pc (q := 40) rfl ?_
  refine uPut (ci := 10) (C := RX10) (T := TX10) (N := 10) (ws' := [(ph0, .inr (10, [.ref ph1, .ref pg2, .int 5, .int 0, .int 0, .int 0, .int 0, .int 0, .long 0, .int (-1)])), (ph1, .inl (K 0, 1000, .inl (upd pf3 4 ((px4 >>> (24 &&& 31)) &&& 255))))]) B inlX10 tyX10_ok nmX10 hP hD hS 0 rfl rfl 2 rfl mfl_X10_19 rfl rfl rfl rfl rfl rfl dX10_append_40 (fun H locs hP hD hS => ?_)
  refine lv_iinc (v := 16) (lv' := [(2, .int 16), (0, .ref ph0), (1, .int px4)]) hx hb dX10_append_43 hl (k := 0) rfl (by decide) (by decide) rfl (fun ls hl => ?_)
  refine lv_goto (tgt := 3) hx hb dX10_append_46 (by decide) ?_
  refine lv_iload_n hx hb dX10_append_3 rfl (lv_at hl 0 rfl) ?_
  refine lv_if_lt (tgt := 49) hx hb dX10_append_4 (by decide) (fun h9 => absurd h9 (by decide)) (fun _ => ?_)
  refine lv_aload_n hx hb dX10_append_7 rfl (lv_at hl 1 rfl) ?_
  refine lv_pc (q := 8) rfl ?_
  refine uGet (ci := 10) (C := RX10) (T := TX10) (N := 10) (v := .int 5) B inlX10 hP 0 rfl rfl 2 rfl mfl_X10_19 rfl rfl dX10_append_8 ?_
  refine lv_sipush (v := 1000) hx hb dX10_append_11 (by decide) ?_
  refine lv_icmp_ge (tgt := 49) hx hb dX10_append_14 (by decide) (fun h9 => absurd h9 (by decide)) (fun _ => ?_)
  refine lv_aload_n hx hb dX10_append_17 rfl (lv_at hl 1 rfl) ?_
  refine uGet (ci := 10) (C := RX10) (T := TX10) (N := 10) (v := .ref ph1) B inlX10 hP 0 rfl rfl 0 rfl mfl_X10_9 rfl rfl dX10_append_18 ?_
  refine lv_aload_n hx hb dX10_append_21 rfl (lv_at hl 1 rfl) ?_
  refine lv_pc (q := 22) rfl ?_
  refine uGet (ci := 10) (C := RX10) (T := TX10) (N := 10) (v := .int 5) B inlX10 hP 0 rfl rfl 2 rfl mfl_X10_19 rfl rfl dX10_append_22 ?_
  refine lv_iload_n hx hb dX10_append_25 rfl (lv_at hl 2 rfl) ?_
  refine lv_iload_n hx hb dX10_append_26 rfl (lv_at hl 0 rfl) ?_
  refine lv_ishr hx hb dX10_append_27 ?_
  refine lv_sipush (v := 255) hx hb dX10_append_28 (by decide) ?_
  refine lv_iand hx hb dX10_append_31 ?_
  refine lv_pc (q := 32) rfl ?_
  refine uIast (i := 5) (j := 5) (ws' := [(ph0, .inr (10, [.ref ph1, .ref pg2, .int 5, .int 0, .int 0, .int 0, .int 0, .int 0, .long 0, .int (-1)])), (ph1, .inl (K 0, 1000, .inl (upd (upd pf3 4 ((px4 >>> (24 &&& 31)) &&& 255)) 5 ((px4 >>> (16 &&& 31)) &&& 255))))]) B hP hD hS 1 rfl (by decide) rfl rfl dX10_append_32 (fun H locs hP hD hS => ?_)
  refine lv_aload_n hx hb dX10_append_33 rfl (lv_at hl 1 rfl) ?_
  refine lv_dup hx hb dX10_append_34 rfl ?_
  refine uGet (ci := 10) (C := RX10) (T := TX10) (N := 10) (v := .int 5) B inlX10 hP 0 rfl rfl 2 rfl mfl_X10_19 rfl rfl dX10_append_35 ?_
  refine lv_iconst (v := 1) hx hb dX10_append_38 (by decide) ?_
  refine lv_iadd hx hb dX10_append_39 ?_
  refine lv_fixi (y := 6) (by decide) ?_
  refine lv_pc (q := 40) rfl ?_
  refine uPut (ci := 10) (C := RX10) (T := TX10) (N := 10) (ws' := [(ph0, .inr (10, [.ref ph1, .ref pg2, .int 6, .int 0, .int 0, .int 0, .int 0, .int 0, .long 0, .int (-1)])), (ph1, .inl (K 0, 1000, .inl (upd (upd pf3 4 ((px4 >>> (24 &&& 31)) &&& 255)) 5 ((px4 >>> (16 &&& 31)) &&& 255))))]) B inlX10 tyX10_ok nmX10 hP hD hS 0 rfl rfl 2 rfl mfl_X10_19 rfl rfl rfl rfl rfl rfl dX10_append_40 (fun H locs hP hD hS => ?_)
  refine lv_iinc (v := 8) (lv' := [(2, .int 8), (0, .ref ph0), (1, .int px4)]) hx hb dX10_append_43 hl (k := 0) rfl (by decide) (by decide) rfl (fun ls hl => ?_)
  refine lv_goto (tgt := 3) hx hb dX10_append_46 (by decide) ?_
  refine lv_iload_n hx hb dX10_append_3 rfl (lv_at hl 0 rfl) ?_
  refine lv_if_lt (tgt := 49) hx hb dX10_append_4 (by decide) (fun h9 => absurd h9 (by decide)) (fun _ => ?_)
  refine lv_aload_n hx hb dX10_append_7 rfl (lv_at hl 1 rfl) ?_
  refine lv_pc (q := 8) rfl ?_
  refine uGet (ci := 10) (C := RX10) (T := TX10) (N := 10) (v := .int 6) B inlX10 hP 0 rfl rfl 2 rfl mfl_X10_19 rfl rfl dX10_append_8 ?_
  refine lv_sipush (v := 1000) hx hb dX10_append_11 (by decide) ?_
  refine lv_icmp_ge (tgt := 49) hx hb dX10_append_14 (by decide) (fun h9 => absurd h9 (by decide)) (fun _ => ?_)
  refine lv_aload_n hx hb dX10_append_17 rfl (lv_at hl 1 rfl) ?_
  refine uGet (ci := 10) (C := RX10) (T := TX10) (N := 10) (v := .ref ph1) B inlX10 hP 0 rfl rfl 0 rfl mfl_X10_9 rfl rfl dX10_append_18 ?_
  refine lv_aload_n hx hb dX10_append_21 rfl (lv_at hl 1 rfl) ?_
  refine lv_pc (q := 22) rfl ?_
  refine uGet (ci := 10) (C := RX10) (T := TX10) (N := 10) (v := .int 6) B inlX10 hP 0 rfl rfl 2 rfl mfl_X10_19 rfl rfl dX10_append_22 ?_
  refine lv_iload_n hx hb dX10_append_25 rfl (lv_at hl 2 rfl) ?_
  refine lv_iload_n hx hb dX10_append_26 rfl (lv_at hl 0 rfl) ?_
  refine lv_ishr hx hb dX10_append_27 ?_
  refine lv_sipush (v := 255) hx hb dX10_append_28 (by decide) ?_
  refine lv_iand hx hb dX10_append_31 ?_
  refine lv_pc (q := 32) rfl ?_
  refine uIast (i := 6) (j := 6) (ws' := [(ph0, .inr (10, [.ref ph1, .ref pg2, .int 6, .int 0, .int 0, .int 0, .int 0, .int 0, .long 0, .int (-1)])), (ph1, .inl (K 0, 1000, .inl (upd (upd (upd pf3 4 ((px4 >>> (24 &&& 31)) &&& 255)) 5 ((px4 >>> (16 &&& 31)) &&& 255)) 6 ((px4 >>> (8 &&& 31)) &&& 255))))]) B hP hD hS 1 rfl (by decide) rfl rfl dX10_append_32 (fun H locs hP hD hS => ?_)
  obtain ⟨f1, ef1⟩ : ∃ y : Nat → Int32, y = upd (upd (upd pf3 4 ((px4 >>> (24 &&& 31)) &&& 255)) 5 ((px4 >>> (16 &&& 31)) &&& 255)) 6 ((px4 >>> (8 &&& 31)) &&& 255) := ⟨_, rfl⟩
  rw [← ef1] at hP hD
  clear ef1
  refine lv_aload_n hx hb dX10_append_33 rfl (lv_at hl 1 rfl) ?_
  refine lv_dup hx hb dX10_append_34 rfl ?_
  refine uGet (ci := 10) (C := RX10) (T := TX10) (N := 10) (v := .int 6) B inlX10 hP 0 rfl rfl 2 rfl mfl_X10_19 rfl rfl dX10_append_35 ?_
  refine lv_iconst (v := 1) hx hb dX10_append_38 (by decide) ?_
  refine lv_iadd hx hb dX10_append_39 ?_
  refine lv_fixi (y := 7) (by decide) ?_
  refine lv_pc (q := 40) rfl ?_
  refine uPut (ci := 10) (C := RX10) (T := TX10) (N := 10) (ws' := [(ph0, .inr (10, [.ref ph1, .ref pg2, .int 7, .int 0, .int 0, .int 0, .int 0, .int 0, .long 0, .int (-1)])), (ph1, .inl (K 0, 1000, .inl f1))]) B inlX10 tyX10_ok nmX10 hP hD hS 0 rfl rfl 2 rfl mfl_X10_19 rfl rfl rfl rfl rfl rfl dX10_append_40 (fun H locs hP hD hS => ?_)
  refine lv_iinc (v := 0) (lv' := [(2, .int 0), (0, .ref ph0), (1, .int px4)]) hx hb dX10_append_43 hl (k := 0) rfl (by decide) (by decide) rfl (fun ls hl => ?_)
  refine lv_goto (tgt := 3) hx hb dX10_append_46 (by decide) ?_
  refine lv_iload_n hx hb dX10_append_3 rfl (lv_at hl 0 rfl) ?_
  refine lv_if_lt (tgt := 49) hx hb dX10_append_4 (by decide) (fun h9 => absurd h9 (by decide)) (fun _ => ?_)
  refine lv_aload_n hx hb dX10_append_7 rfl (lv_at hl 1 rfl) ?_
  refine lv_pc (q := 8) rfl ?_
  refine uGet (ci := 10) (C := RX10) (T := TX10) (N := 10) (v := .int 7) B inlX10 hP 0 rfl rfl 2 rfl mfl_X10_19 rfl rfl dX10_append_8 ?_
  refine lv_sipush (v := 1000) hx hb dX10_append_11 (by decide) ?_
  refine lv_icmp_ge (tgt := 49) hx hb dX10_append_14 (by decide) (fun h9 => absurd h9 (by decide)) (fun _ => ?_)
  refine lv_aload_n hx hb dX10_append_17 rfl (lv_at hl 1 rfl) ?_
  refine uGet (ci := 10) (C := RX10) (T := TX10) (N := 10) (v := .ref ph1) B inlX10 hP 0 rfl rfl 0 rfl mfl_X10_9 rfl rfl dX10_append_18 ?_
  refine lv_aload_n hx hb dX10_append_21 rfl (lv_at hl 1 rfl) ?_
  refine lv_pc (q := 22) rfl ?_
  refine uGet (ci := 10) (C := RX10) (T := TX10) (N := 10) (v := .int 7) B inlX10 hP 0 rfl rfl 2 rfl mfl_X10_19 rfl rfl dX10_append_22 ?_
  refine lv_iload_n hx hb dX10_append_25 rfl (lv_at hl 2 rfl) ?_
  refine lv_iload_n hx hb dX10_append_26 rfl (lv_at hl 0 rfl) ?_
  refine lv_ishr hx hb dX10_append_27 ?_
  refine lv_sipush (v := 255) hx hb dX10_append_28 (by decide) ?_
  refine lv_iand hx hb dX10_append_31 ?_
  refine lv_pc (q := 32) rfl ?_
  refine uIast (i := 7) (j := 7) (ws' := [(ph0, .inr (10, [.ref ph1, .ref pg2, .int 7, .int 0, .int 0, .int 0, .int 0, .int 0, .long 0, .int (-1)])), (ph1, .inl (K 0, 1000, .inl (upd f1 7 ((px4 >>> (0 &&& 31)) &&& 255))))]) B hP hD hS 1 rfl (by decide) rfl rfl dX10_append_32 (fun H locs hP hD hS => ?_)
  refine lv_aload_n hx hb dX10_append_33 rfl (lv_at hl 1 rfl) ?_
  refine lv_dup hx hb dX10_append_34 rfl ?_
  refine uGet (ci := 10) (C := RX10) (T := TX10) (N := 10) (v := .int 7) B inlX10 hP 0 rfl rfl 2 rfl mfl_X10_19 rfl rfl dX10_append_35 ?_
  refine lv_iconst (v := 1) hx hb dX10_append_38 (by decide) ?_
  refine lv_iadd hx hb dX10_append_39 ?_
  refine lv_fixi (y := 8) (by decide) ?_
  refine lv_pc (q := 40) rfl ?_
  refine uPut (ci := 10) (C := RX10) (T := TX10) (N := 10) (ws' := [(ph0, .inr (10, [.ref ph1, .ref pg2, .int 8, .int 0, .int 0, .int 0, .int 0, .int 0, .long 0, .int (-1)])), (ph1, .inl (K 0, 1000, .inl (upd f1 7 ((px4 >>> (0 &&& 31)) &&& 255))))]) B inlX10 tyX10_ok nmX10 hP hD hS 0 rfl rfl 2 rfl mfl_X10_19 rfl rfl rfl rfl rfl rfl dX10_append_40 (fun H locs hP hD hS => ?_)
  refine lv_iinc (v := (-8)) (lv' := [(2, .int (-8)), (0, .ref ph0), (1, .int px4)]) hx hb dX10_append_43 hl (k := 0) rfl (by decide) (by decide) rfl (fun ls hl => ?_)
  refine lv_goto (tgt := 3) hx hb dX10_append_46 (by decide) ?_
  refine lv_iload_n hx hb dX10_append_3 rfl (lv_at hl 0 rfl) ?_
  refine lv_if_lt (tgt := 49) hx hb dX10_append_4 (by decide) (fun _ => ?_) (fun h9 => absurd (by decide) h9)
  exact uRv (upd f1 7 ((px4 >>> (0 &&& 31)) &&& 255)) B trivial (uSub hP [0, 1] rfl) (hD.sub [0, 1] rfl rfl) hS dX10_append_49
def qkX10_append_131 (ph0 : Nat) (ph1 : Nat) (pg2 : Nat) (pf3 : Nat → Int32) (px4 : Int32) : ((Nat → Int32)) → Prop := (fun (u : (Nat → Int32)) => True)
def vkX10_append_131 (K : Nat → ClassId) (ph0 : Nat) (ph1 : Nat) (pg2 : Nat) (pf3 : Nat → Int32) (px4 : Int32) : ((Nat → Int32)) → va_W := (fun (u : (Nat → Int32)) => [(ph0, .inr (10, [.ref ph1, .ref pg2, .int 12, .int 0, .int 0, .int 0, .int 0, .int 0, .long 0, .int (-1)])), (ph1, .inl (K 0, 1000, .inl u))])
set_option maxHeartbeats 4000000 in
set_option maxRecDepth 100000 in
theorem kX10_append_131 (l : Launch) (D : va_G) (K : Nat → ClassId) (sz : Nat) (ph0 : Nat) (ph1 : Nat) (pg2 : Nat) (pf3 : Nat → Int32) (px4 : Int32) : uMv l yX10_append cX10_append 3 { frames := 0, cells := 0, slots := 0, locals := 0 } [.ref ph0, .int px4] D K [(ph0, .inr (10, [.ref ph1, .ref pg2, .int 8, .int 0, .int 0, .int 0, .int 0, .int 0, .long 0, .int (-1)])), (ph1, .inl (K 0, 1000, .inl pf3))] sz (qkX10_append_131 ph0 ph1 pg2 pf3 px4) (vkX10_append_131 K ph0 ph1 pg2 pf3 px4) := by
  refine uMet (Qc := uQv D (qkX10_append_131 ph0 ph1 pg2 pf3 px4) (vkX10_append_131 K ph0 ph1 pg2 pf3 px4)) (ret := none) (by decide) (Nat.le_of_ble_eq_true rfl) ?_
  intro p e s m below meth c A ls hAe hsz B hP hD hS hl
  have hx := B.1
  have hb := B.2.1
  have hl : lv_has ls 3 [(0, .ref ph0), (1, .int px4)] := hl
  refine lv_bipush (v := 24) hx hb dX10_append_0 (by decide) ?_
  refine lv_istore_n (lv' := [(2, .int 24), (0, .ref ph0), (1, .int px4)]) hx hb dX10_append_2 rfl hl (by decide) rfl (fun ls hl => ?_)
  refine lv_iload_n hx hb dX10_append_3 rfl (lv_at hl 0 rfl) ?_
  refine lv_if_lt (tgt := 49) hx hb dX10_append_4 (by decide) (fun h9 => absurd h9 (by decide)) (fun _ => ?_)
  refine lv_aload_n hx hb dX10_append_7 rfl (lv_at hl 1 rfl) ?_
  refine lv_pc (q := 8) rfl ?_
  refine uGet (ci := 10) (C := RX10) (T := TX10) (N := 10) (v := .int 8) B inlX10 hP 0 rfl rfl 2 rfl mfl_X10_19 rfl rfl dX10_append_8 ?_
  refine lv_sipush (v := 1000) hx hb dX10_append_11 (by decide) ?_
  refine lv_icmp_ge (tgt := 49) hx hb dX10_append_14 (by decide) (fun h9 => absurd h9 (by decide)) (fun _ => ?_)
  refine lv_aload_n hx hb dX10_append_17 rfl (lv_at hl 1 rfl) ?_
  refine uGet (ci := 10) (C := RX10) (T := TX10) (N := 10) (v := .ref ph1) B inlX10 hP 0 rfl rfl 0 rfl mfl_X10_9 rfl rfl dX10_append_18 ?_
  refine lv_aload_n hx hb dX10_append_21 rfl (lv_at hl 1 rfl) ?_
  refine lv_pc (q := 22) rfl ?_
  refine uGet (ci := 10) (C := RX10) (T := TX10) (N := 10) (v := .int 8) B inlX10 hP 0 rfl rfl 2 rfl mfl_X10_19 rfl rfl dX10_append_22 ?_
  refine lv_iload_n hx hb dX10_append_25 rfl (lv_at hl 2 rfl) ?_
  refine lv_iload_n hx hb dX10_append_26 rfl (lv_at hl 0 rfl) ?_
  refine lv_ishr hx hb dX10_append_27 ?_
  refine lv_sipush (v := 255) hx hb dX10_append_28 (by decide) ?_
  refine lv_iand hx hb dX10_append_31 ?_
  refine lv_pc (q := 32) rfl ?_
  refine uIast (i := 8) (j := 8) (ws' := [(ph0, .inr (10, [.ref ph1, .ref pg2, .int 8, .int 0, .int 0, .int 0, .int 0, .int 0, .long 0, .int (-1)])), (ph1, .inl (K 0, 1000, .inl (upd pf3 8 ((px4 >>> (24 &&& 31)) &&& 255))))]) B hP hD hS 1 rfl (by decide) rfl rfl dX10_append_32 (fun H locs hP hD hS => ?_)
  refine lv_aload_n hx hb dX10_append_33 rfl (lv_at hl 1 rfl) ?_
  refine lv_dup hx hb dX10_append_34 rfl ?_
  refine uGet (ci := 10) (C := RX10) (T := TX10) (N := 10) (v := .int 8) B inlX10 hP 0 rfl rfl 2 rfl mfl_X10_19 rfl rfl dX10_append_35 ?_
  refine lv_iconst (v := 1) hx hb dX10_append_38 (by decide) ?_
  refine lv_iadd hx hb dX10_append_39 ?_
  refine lv_fixi (y := 9) (by decide) ?_
  refine lv_pc (q := 40) rfl ?_
  refine uPut (ci := 10) (C := RX10) (T := TX10) (N := 10) (ws' := [(ph0, .inr (10, [.ref ph1, .ref pg2, .int 9, .int 0, .int 0, .int 0, .int 0, .int 0, .long 0, .int (-1)])), (ph1, .inl (K 0, 1000, .inl (upd pf3 8 ((px4 >>> (24 &&& 31)) &&& 255))))]) B inlX10 tyX10_ok nmX10 hP hD hS 0 rfl rfl 2 rfl mfl_X10_19 rfl rfl rfl rfl rfl rfl dX10_append_40 (fun H locs hP hD hS => ?_)
  refine lv_iinc (v := 16) (lv' := [(2, .int 16), (0, .ref ph0), (1, .int px4)]) hx hb dX10_append_43 hl (k := 0) rfl (by decide) (by decide) rfl (fun ls hl => ?_)
  refine lv_goto (tgt := 3) hx hb dX10_append_46 (by decide) ?_
  refine lv_iload_n hx hb dX10_append_3 rfl (lv_at hl 0 rfl) ?_
  refine lv_if_lt (tgt := 49) hx hb dX10_append_4 (by decide) (fun h9 => absurd h9 (by decide)) (fun _ => ?_)
  refine lv_aload_n hx hb dX10_append_7 rfl (lv_at hl 1 rfl) ?_
  refine lv_pc (q := 8) rfl ?_
  refine uGet (ci := 10) (C := RX10) (T := TX10) (N := 10) (v := .int 9) B inlX10 hP 0 rfl rfl 2 rfl mfl_X10_19 rfl rfl dX10_append_8 ?_
  refine lv_sipush (v := 1000) hx hb dX10_append_11 (by decide) ?_
  refine lv_icmp_ge (tgt := 49) hx hb dX10_append_14 (by decide) (fun h9 => absurd h9 (by decide)) (fun _ => ?_)
  refine lv_aload_n hx hb dX10_append_17 rfl (lv_at hl 1 rfl) ?_
  refine uGet (ci := 10) (C := RX10) (T := TX10) (N := 10) (v := .ref ph1) B inlX10 hP 0 rfl rfl 0 rfl mfl_X10_9 rfl rfl dX10_append_18 ?_
  refine lv_aload_n hx hb dX10_append_21 rfl (lv_at hl 1 rfl) ?_
  refine lv_pc (q := 22) rfl ?_
  refine uGet (ci := 10) (C := RX10) (T := TX10) (N := 10) (v := .int 9) B inlX10 hP 0 rfl rfl 2 rfl mfl_X10_19 rfl rfl dX10_append_22 ?_
  refine lv_iload_n hx hb dX10_append_25 rfl (lv_at hl 2 rfl) ?_
  refine lv_iload_n hx hb dX10_append_26 rfl (lv_at hl 0 rfl) ?_
  refine lv_ishr hx hb dX10_append_27 ?_
  refine lv_sipush (v := 255) hx hb dX10_append_28 (by decide) ?_
  refine lv_iand hx hb dX10_append_31 ?_
  refine lv_pc (q := 32) rfl ?_
  refine uIast (i := 9) (j := 9) (ws' := [(ph0, .inr (10, [.ref ph1, .ref pg2, .int 9, .int 0, .int 0, .int 0, .int 0, .int 0, .long 0, .int (-1)])), (ph1, .inl (K 0, 1000, .inl (upd (upd pf3 8 ((px4 >>> (24 &&& 31)) &&& 255)) 9 ((px4 >>> (16 &&& 31)) &&& 255))))]) B hP hD hS 1 rfl (by decide) rfl rfl dX10_append_32 (fun H locs hP hD hS => ?_)
  refine lv_aload_n hx hb dX10_append_33 rfl (lv_at hl 1 rfl) ?_
  refine lv_dup hx hb dX10_append_34 rfl ?_
  refine uGet (ci := 10) (C := RX10) (T := TX10) (N := 10) (v := .int 9) B inlX10 hP 0 rfl rfl 2 rfl mfl_X10_19 rfl rfl dX10_append_35 ?_
  refine lv_iconst (v := 1) hx hb dX10_append_38 (by decide) ?_
  refine lv_iadd hx hb dX10_append_39 ?_
  refine lv_fixi (y := 10) (by decide) ?_
  refine lv_pc (q := 40) rfl ?_
  refine uPut (ci := 10) (C := RX10) (T := TX10) (N := 10) (ws' := [(ph0, .inr (10, [.ref ph1, .ref pg2, .int 10, .int 0, .int 0, .int 0, .int 0, .int 0, .long 0, .int (-1)])), (ph1, .inl (K 0, 1000, .inl (upd (upd pf3 8 ((px4 >>> (24 &&& 31)) &&& 255)) 9 ((px4 >>> (16 &&& 31)) &&& 255))))]) B inlX10 tyX10_ok nmX10 hP hD hS 0 rfl rfl 2 rfl mfl_X10_19 rfl rfl rfl rfl rfl rfl dX10_append_40 (fun H locs hP hD hS => ?_)
  refine lv_iinc (v := 8) (lv' := [(2, .int 8), (0, .ref ph0), (1, .int px4)]) hx hb dX10_append_43 hl (k := 0) rfl (by decide) (by decide) rfl (fun ls hl => ?_)
  refine lv_goto (tgt := 3) hx hb dX10_append_46 (by decide) ?_
  refine lv_iload_n hx hb dX10_append_3 rfl (lv_at hl 0 rfl) ?_
  refine lv_if_lt (tgt := 49) hx hb dX10_append_4 (by decide) (fun h9 => absurd h9 (by decide)) (fun _ => ?_)
  refine lv_aload_n hx hb dX10_append_7 rfl (lv_at hl 1 rfl) ?_
  refine lv_pc (q := 8) rfl ?_
  refine uGet (ci := 10) (C := RX10) (T := TX10) (N := 10) (v := .int 10) B inlX10 hP 0 rfl rfl 2 rfl mfl_X10_19 rfl rfl dX10_append_8 ?_
  refine lv_sipush (v := 1000) hx hb dX10_append_11 (by decide) ?_
  refine lv_icmp_ge (tgt := 49) hx hb dX10_append_14 (by decide) (fun h9 => absurd h9 (by decide)) (fun _ => ?_)
  refine lv_aload_n hx hb dX10_append_17 rfl (lv_at hl 1 rfl) ?_
  refine uGet (ci := 10) (C := RX10) (T := TX10) (N := 10) (v := .ref ph1) B inlX10 hP 0 rfl rfl 0 rfl mfl_X10_9 rfl rfl dX10_append_18 ?_
  refine lv_aload_n hx hb dX10_append_21 rfl (lv_at hl 1 rfl) ?_
  refine lv_pc (q := 22) rfl ?_
  refine uGet (ci := 10) (C := RX10) (T := TX10) (N := 10) (v := .int 10) B inlX10 hP 0 rfl rfl 2 rfl mfl_X10_19 rfl rfl dX10_append_22 ?_
  refine lv_iload_n hx hb dX10_append_25 rfl (lv_at hl 2 rfl) ?_
  refine lv_iload_n hx hb dX10_append_26 rfl (lv_at hl 0 rfl) ?_
  refine lv_ishr hx hb dX10_append_27 ?_
  refine lv_sipush (v := 255) hx hb dX10_append_28 (by decide) ?_
  refine lv_iand hx hb dX10_append_31 ?_
  refine lv_pc (q := 32) rfl ?_
  refine uIast (i := 10) (j := 10) (ws' := [(ph0, .inr (10, [.ref ph1, .ref pg2, .int 10, .int 0, .int 0, .int 0, .int 0, .int 0, .long 0, .int (-1)])), (ph1, .inl (K 0, 1000, .inl (upd (upd (upd pf3 8 ((px4 >>> (24 &&& 31)) &&& 255)) 9 ((px4 >>> (16 &&& 31)) &&& 255)) 10 ((px4 >>> (8 &&& 31)) &&& 255))))]) B hP hD hS 1 rfl (by decide) rfl rfl dX10_append_32 (fun H locs hP hD hS => ?_)
  obtain ⟨f1, ef1⟩ : ∃ y : Nat → Int32, y = upd (upd (upd pf3 8 ((px4 >>> (24 &&& 31)) &&& 255)) 9 ((px4 >>> (16 &&& 31)) &&& 255)) 10 ((px4 >>> (8 &&& 31)) &&& 255) := ⟨_, rfl⟩
  rw [← ef1] at hP hD
  clear ef1
  refine lv_aload_n hx hb dX10_append_33 rfl (lv_at hl 1 rfl) ?_
  refine lv_dup hx hb dX10_append_34 rfl ?_
  refine uGet (ci := 10) (C := RX10) (T := TX10) (N := 10) (v := .int 10) B inlX10 hP 0 rfl rfl 2 rfl mfl_X10_19 rfl rfl dX10_append_35 ?_
  refine lv_iconst (v := 1) hx hb dX10_append_38 (by decide) ?_
  refine lv_iadd hx hb dX10_append_39 ?_
  refine lv_fixi (y := 11) (by decide) ?_
  refine lv_pc (q := 40) rfl ?_
  refine uPut (ci := 10) (C := RX10) (T := TX10) (N := 10) (ws' := [(ph0, .inr (10, [.ref ph1, .ref pg2, .int 11, .int 0, .int 0, .int 0, .int 0, .int 0, .long 0, .int (-1)])), (ph1, .inl (K 0, 1000, .inl f1))]) B inlX10 tyX10_ok nmX10 hP hD hS 0 rfl rfl 2 rfl mfl_X10_19 rfl rfl rfl rfl rfl rfl dX10_append_40 (fun H locs hP hD hS => ?_)
  refine lv_iinc (v := 0) (lv' := [(2, .int 0), (0, .ref ph0), (1, .int px4)]) hx hb dX10_append_43 hl (k := 0) rfl (by decide) (by decide) rfl (fun ls hl => ?_)
  refine lv_goto (tgt := 3) hx hb dX10_append_46 (by decide) ?_
  refine lv_iload_n hx hb dX10_append_3 rfl (lv_at hl 0 rfl) ?_
  refine lv_if_lt (tgt := 49) hx hb dX10_append_4 (by decide) (fun h9 => absurd h9 (by decide)) (fun _ => ?_)
  refine lv_aload_n hx hb dX10_append_7 rfl (lv_at hl 1 rfl) ?_
  refine lv_pc (q := 8) rfl ?_
  refine uGet (ci := 10) (C := RX10) (T := TX10) (N := 10) (v := .int 11) B inlX10 hP 0 rfl rfl 2 rfl mfl_X10_19 rfl rfl dX10_append_8 ?_
  refine lv_sipush (v := 1000) hx hb dX10_append_11 (by decide) ?_
  refine lv_icmp_ge (tgt := 49) hx hb dX10_append_14 (by decide) (fun h9 => absurd h9 (by decide)) (fun _ => ?_)
  refine lv_aload_n hx hb dX10_append_17 rfl (lv_at hl 1 rfl) ?_
  refine uGet (ci := 10) (C := RX10) (T := TX10) (N := 10) (v := .ref ph1) B inlX10 hP 0 rfl rfl 0 rfl mfl_X10_9 rfl rfl dX10_append_18 ?_
  refine lv_aload_n hx hb dX10_append_21 rfl (lv_at hl 1 rfl) ?_
  refine lv_pc (q := 22) rfl ?_
  refine uGet (ci := 10) (C := RX10) (T := TX10) (N := 10) (v := .int 11) B inlX10 hP 0 rfl rfl 2 rfl mfl_X10_19 rfl rfl dX10_append_22 ?_
  refine lv_iload_n hx hb dX10_append_25 rfl (lv_at hl 2 rfl) ?_
  refine lv_iload_n hx hb dX10_append_26 rfl (lv_at hl 0 rfl) ?_
  refine lv_ishr hx hb dX10_append_27 ?_
  refine lv_sipush (v := 255) hx hb dX10_append_28 (by decide) ?_
  refine lv_iand hx hb dX10_append_31 ?_
  refine lv_pc (q := 32) rfl ?_
  refine uIast (i := 11) (j := 11) (ws' := [(ph0, .inr (10, [.ref ph1, .ref pg2, .int 11, .int 0, .int 0, .int 0, .int 0, .int 0, .long 0, .int (-1)])), (ph1, .inl (K 0, 1000, .inl (upd f1 11 ((px4 >>> (0 &&& 31)) &&& 255))))]) B hP hD hS 1 rfl (by decide) rfl rfl dX10_append_32 (fun H locs hP hD hS => ?_)
  refine lv_aload_n hx hb dX10_append_33 rfl (lv_at hl 1 rfl) ?_
  refine lv_dup hx hb dX10_append_34 rfl ?_
  refine uGet (ci := 10) (C := RX10) (T := TX10) (N := 10) (v := .int 11) B inlX10 hP 0 rfl rfl 2 rfl mfl_X10_19 rfl rfl dX10_append_35 ?_
  refine lv_iconst (v := 1) hx hb dX10_append_38 (by decide) ?_
  refine lv_iadd hx hb dX10_append_39 ?_
  refine lv_fixi (y := 12) (by decide) ?_
  refine lv_pc (q := 40) rfl ?_
  refine uPut (ci := 10) (C := RX10) (T := TX10) (N := 10) (ws' := [(ph0, .inr (10, [.ref ph1, .ref pg2, .int 12, .int 0, .int 0, .int 0, .int 0, .int 0, .long 0, .int (-1)])), (ph1, .inl (K 0, 1000, .inl (upd f1 11 ((px4 >>> (0 &&& 31)) &&& 255))))]) B inlX10 tyX10_ok nmX10 hP hD hS 0 rfl rfl 2 rfl mfl_X10_19 rfl rfl rfl rfl rfl rfl dX10_append_40 (fun H locs hP hD hS => ?_)
  refine lv_iinc (v := (-8)) (lv' := [(2, .int (-8)), (0, .ref ph0), (1, .int px4)]) hx hb dX10_append_43 hl (k := 0) rfl (by decide) (by decide) rfl (fun ls hl => ?_)
  refine lv_goto (tgt := 3) hx hb dX10_append_46 (by decide) ?_
  refine lv_iload_n hx hb dX10_append_3 rfl (lv_at hl 0 rfl) ?_
  refine lv_if_lt (tgt := 49) hx hb dX10_append_4 (by decide) (fun _ => ?_) (fun h9 => absurd (by decide) h9)
  exact uRv (upd f1 11 ((px4 >>> (0 &&& 31)) &&& 255)) B trivial (uSub hP [0, 1] rfl) (hD.sub [0, 1] rfl rfl) hS dX10_append_49

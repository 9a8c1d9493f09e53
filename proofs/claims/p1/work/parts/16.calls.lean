def qkX10_append_132 (ph0 : Nat) (ph1 : Nat) (pg2 : Nat) (pf3 : Nat → Int32) (px4 : Int32) : ((Nat → Int32)) → Prop := (fun (u : (Nat → Int32)) => True)
def vkX10_append_132 (K : Nat → ClassId) (ph0 : Nat) (ph1 : Nat) (pg2 : Nat) (pf3 : Nat → Int32) (px4 : Int32) : ((Nat → Int32)) → va_W := (fun (u : (Nat → Int32)) => [(ph0, .inr (10, [.ref ph1, .ref pg2, .int 16, .int 0, .int 0, .int 0, .int 0, .int 0, .long 0, .int (-1)])), (ph1, .inl (K 0, 1000, .inl u))])
set_option maxHeartbeats 4000000 in
set_option maxRecDepth 100000 in
theorem kX10_append_132 (l : Launch) (D : va_G) (K : Nat → ClassId) (sz : Nat) (ph0 : Nat) (ph1 : Nat) (pg2 : Nat) (pf3 : Nat → Int32) (px4 : Int32) : uMv l yX10_append cX10_append 3 { frames := 0, cells := 0, slots := 0, locals := 0 } [.ref ph0, .int px4] D K [(ph0, .inr (10, [.ref ph1, .ref pg2, .int 12, .int 0, .int 0, .int 0, .int 0, .int 0, .long 0, .int (-1)])), (ph1, .inl (K 0, 1000, .inl pf3))] sz (qkX10_append_132 ph0 ph1 pg2 pf3 px4) (vkX10_append_132 K ph0 ph1 pg2 pf3 px4) := by
  refine uMet (Qc := uQv D (qkX10_append_132 ph0 ph1 pg2 pf3 px4) (vkX10_append_132 K ph0 ph1 pg2 pf3 px4)) (ret := none) (by decide) (Nat.le_of_ble_eq_true rfl) ?_
  intro p e s m below meth c A ls hAe hsz B hP hD hS hl
  have hx := B.1
  have hb := B.2.1
  have hl : lv_has ls 3 [(0, .ref ph0), (1, .int px4)] := hl
  refine lv_bipush (v := 24) hx hb dX10_append_0 (by decide) ?_
  refine lv_istore_n (lv' := [(2, .int 24), (0, .ref ph0), (1, .int px4)]) hx hb dX10_append_2 rfl hl (by decide) rfl (fun ls hl => ?_)
  refine lv_iload_n hx hb dX10_append_3 rfl (lv_at hl 0 rfl) ?_
  refine lv_if_lt (tgt := 49) hx hb dX10_append_4 (by decide) (fun h9 => absurd h9 (by decide)) (fun _ => ?_)
  refine lv_aload_n hx hb dX10_append_7 rfl (lv_at hl 1 rfl) ?_
  refine lv_pc (q := 8) rfl ?_
  refine uGet (ci := 10) (C := RX10) (T := TX10) (N := 10) (v := .int 12) B inlX10 hP 0 rfl rfl 2 rfl mfl_X10_19 rfl rfl dX10_append_8 ?_
  refine lv_sipush (v := 1000) hx hb dX10_append_11 (by decide) ?_
  refine lv_icmp_ge (tgt := 49) hx hb dX10_append_14 (by decide) (fun h9 => absurd h9 (by decide)) (fun _ => ?_)
  refine lv_aload_n hx hb dX10_append_17 rfl (lv_at hl 1 rfl) ?_
  refine uGet (ci := 10) (C := RX10) (T := TX10) (N := 10) (v := .ref ph1) B inlX10 hP 0 rfl rfl 0 rfl mfl_X10_9 rfl rfl dX10_append_18 ?_
  refine lv_aload_n hx hb dX10_append_21 rfl (lv_at hl 1 rfl) ?_
  refine lv_pc (q := 22) rfl ?_
  refine uGet (ci := 10) (C := RX10) (T := TX10) (N := 10) (v := .int 12) B inlX10 hP 0 rfl rfl 2 rfl mfl_X10_19 rfl rfl dX10_append_22 ?_
  refine lv_iload_n hx hb dX10_append_25 rfl (lv_at hl 2 rfl) ?_
  refine lv_iload_n hx hb dX10_append_26 rfl (lv_at hl 0 rfl) ?_
  refine lv_ishr hx hb dX10_append_27 ?_
  refine lv_sipush (v := 255) hx hb dX10_append_28 (by decide) ?_
  refine lv_iand hx hb dX10_append_31 ?_
  refine lv_pc (q := 32) rfl ?_
  refine uIast (i := 12) (j := 12) (ws' := [(ph0, .inr (10, [.ref ph1, .ref pg2, .int 12, .int 0, .int 0, .int 0, .int 0, .int 0, .long 0, .int (-1)])), (ph1, .inl (K 0, 1000, .inl (upd pf3 12 ((px4 >>> (24 &&& 31)) &&& 255))))]) B hP hD hS 1 rfl (by decide) rfl rfl dX10_append_32 (fun H locs hP hD hS => ?_)
  refine lv_aload_n hx hb dX10_append_33 rfl (lv_at hl 1 rfl) ?_
  refine lv_dup hx hb dX10_append_34 rfl ?_
  refine uGet (ci := 10) (C := RX10) (T := TX10) (N := 10) (v := .int 12) B inlX10 hP 0 rfl rfl 2 rfl mfl_X10_19 rfl rfl dX10_append_35 ?_
  refine lv_iconst (v := 1) hx hb dX10_append_38 (by decide) ?_
  refine lv_iadd hx hb dX10_append_39 ?_
  refine lv_fixi (y := 13) (by decide) ?_
  refine lv_pc (q := 40) rfl ?_
  refine uPut (ci := 10) (C := RX10) (T := TX10) (N := 10) (ws' := [(ph0, .inr (10, [.ref ph1, .ref pg2, .int 13, .int 0, .int 0, .int 0, .int 0, .int 0, .long 0, .int (-1)])), (ph1, .inl (K 0, 1000, .inl (upd pf3 12 ((px4 >>> (24 &&& 31)) &&& 255))))]) B inlX10 tyX10_ok nmX10 hP hD hS 0 rfl rfl 2 rfl mfl_X10_19 rfl rfl rfl rfl rfl rfl dX10_append_40 (fun H locs hP hD hS => ?_)
  refine lv_iinc (v := 16) (lv' := [(2, .int 16), (0, .ref ph0), (1, .int px4)]) hx hb dX10_append_43 hl (k := 0) rfl (by decide) (by decide) rfl (fun ls hl => ?_)
  refine lv_goto (tgt := 3) hx hb dX10_append_46 (by decide) ?_
  refine lv_iload_n hx hb dX10_append_3 rfl (lv_at hl 0 rfl) ?_
  refine lv_if_lt (tgt := 49) hx hb dX10_append_4 (by decide) (fun h9 => absurd h9 (by decide)) (fun _ => ?_)
  refine lv_aload_n hx hb dX10_append_7 rfl (lv_at hl 1 rfl) ?_
  refine lv_pc (q := 8) rfl ?_
  refine uGet (ci := 10) (C := RX10) (T := TX10) (N := 10) (v := .int 13) B inlX10 hP 0 rfl rfl 2 rfl mfl_X10_19 rfl rfl dX10_append_8 ?_
  refine lv_sipush (v := 1000) hx hb dX10_append_11 (by decide) ?_
  refine lv_icmp_ge (tgt := 49) hx hb dX10_append_14 (by decide) (fun h9 => absurd h9 (by decide)) (fun _ => ?_)
  refine lv_aload_n hx hb dX10_append_17 rfl (lv_at hl 1 rfl) ?_
  refine uGet (ci := 10) (C := RX10) (T := TX10) (N := 10) (v := .ref ph1) B inlX10 hP 0 rfl rfl 0 rfl mfl_X10_9 rfl rfl dX10_append_18 ?_
  refine lv_aload_n hx hb dX10_append_21 rfl (lv_at hl 1 rfl) ?_
  refine lv_pc (q := 22) rfl ?_
  refine uGet (ci := 10) (C := RX10) (T := TX10) (N := 10) (v := .int 13) B inlX10 hP 0 rfl rfl 2 rfl mfl_X10_19 rfl rfl dX10_append_22 ?_
  refine lv_iload_n hx hb dX10_append_25 rfl (lv_at hl 2 rfl) ?_
  refine lv_iload_n hx hb dX10_append_26 rfl (lv_at hl 0 rfl) ?_
  refine lv_ishr hx hb dX10_append_27 ?_
  refine lv_sipush (v := 255) hx hb dX10_append_28 (by decide) ?_
  refine lv_iand hx hb dX10_append_31 ?_
  refine lv_pc (q := 32) rfl ?_
  refine uIast (i := 13) (j := 13) (ws' := [(ph0, .inr (10, [.ref ph1, .ref pg2, .int 13, .int 0, .int 0, .int 0, .int 0, .int 0, .long 0, .int (-1)])), (ph1, .inl (K 0, 1000, .inl (upd (upd pf3 12 ((px4 >>> (24 &&& 31)) &&& 255)) 13 ((px4 >>> (16 &&& 31)) &&& 255))))]) B hP hD hS 1 rfl (by decide) rfl rfl dX10_append_32 (fun H locs hP hD hS => ?_)
  refine lv_aload_n hx hb dX10_append_33 rfl (lv_at hl 1 rfl) ?_
  refine lv_dup hx hb dX10_append_34 rfl ?_
  refine uGet (ci := 10) (C := RX10) (T := TX10) (N := 10) (v := .int 13) B inlX10 hP 0 rfl rfl 2 rfl mfl_X10_19 rfl rfl dX10_append_35 ?_
  refine lv_iconst (v := 1) hx hb dX10_append_38 (by decide) ?_
  refine lv_iadd hx hb dX10_append_39 ?_
  refine lv_fixi (y := 14) (by decide) ?_
  refine lv_pc (q := 40) rfl ?_
  refine uPut (ci := 10) (C := RX10) (T := TX10) (N := 10) (ws' := [(ph0, .inr (10, [.ref ph1, .ref pg2, .int 14, .int 0, .int 0, .int 0, .int 0, .int 0, .long 0, .int (-1)])), (ph1, .inl (K 0, 1000, .inl (upd (upd pf3 12 ((px4 >>> (24 &&& 31)) &&& 255)) 13 ((px4 >>> (16 &&& 31)) &&& 255))))]) B inlX10 tyX10_ok nmX10 hP hD hS 0 rfl rfl 2 rfl mfl_X10_19 rfl rfl rfl rfl rfl rfl dX10_append_40 (fun H locs hP hD hS => ?_)
  refine lv_iinc (v := 8) (lv' := [(2, .int 8), (0, .ref ph0), (1, .int px4)]) hx hb dX10_append_43 hl (k := 0) rfl (by decide) (by decide) rfl (fun ls hl => ?_)
  refine lv_goto (tgt := 3) hx hb dX10_append_46 (by decide) ?_
  refine lv_iload_n hx hb dX10_append_3 rfl (lv_at hl 0 rfl) ?_
  refine lv_if_lt (tgt := 49) hx hb dX10_append_4 (by decide) (fun h9 => absurd h9 (by decide)) (fun _ => ?_)
  refine lv_aload_n hx hb dX10_append_7 rfl (lv_at hl 1 rfl) ?_
  refine lv_pc (q := 8) rfl ?_
  refine uGet (ci := 10) (C := RX10) (T := TX10) (N := 10) (v := .int 14) B inlX10 hP 0 rfl rfl 2 rfl mfl_X10_19 rfl rfl dX10_append_8 ?_
  refine lv_sipush (v := 1000) hx hb dX10_append_11 (by decide) ?_
  refine lv_icmp_ge (tgt := 49) hx hb dX10_append_14 (by decide) (fun h9 => absurd h9 (by decide)) (fun _ => ?_)
  refine lv_aload_n hx hb dX10_append_17 rfl (lv_at hl 1 rfl) ?_
  refine uGet (ci := 10) (C := RX10) (T := TX10) (N := 10) (v := .ref ph1) B inlX10 hP 0 rfl rfl 0 rfl mfl_X10_9 rfl rfl dX10_append_18 ?_
  refine lv_aload_n hx hb dX10_append_21 rfl (lv_at hl 1 rfl) ?_
  refine lv_pc (q := 22) rfl ?_
  refine uGet (ci := 10) (C := RX10) (T := TX10) (N := 10) (v := .int 14) B inlX10 hP 0 rfl rfl 2 rfl mfl_X10_19 rfl rfl dX10_append_22 ?_
  refine lv_iload_n hx hb dX10_append_25 rfl (lv_at hl 2 rfl) ?_
  refine lv_iload_n hx hb dX10_append_26 rfl (lv_at hl 0 rfl) ?_
  refine lv_ishr hx hb dX10_append_27 ?_
  refine lv_sipush (v := 255) hx hb dX10_append_28 (by decide) ?_
  refine lv_iand hx hb dX10_append_31 ?_
  refine lv_pc (q := 32) rfl ?_
  refine uIast (i := 14) (j := 14) (ws' := [(ph0, .inr (10, [.ref ph1, .ref pg2, .int 14, .int 0, .int 0, .int 0, .int 0, .int 0, .long 0, .int (-1)])), (ph1, .inl (K 0, 1000, .inl (upd (upd (upd pf3 12 ((px4 >>> (24 &&& 31)) &&& 255)) 13 ((px4 >>> (16 &&& 31)) &&& 255)) 14 ((px4 >>> (8 &&& 31)) &&& 255))))]) B hP hD hS 1 rfl (by decide) rfl rfl dX10_append_32 (fun H locs hP hD hS => ?_)
  obtain ⟨f1, ef1⟩ : ∃ y : Nat → Int32, y = upd (upd (upd pf3 12 ((px4 >>> (24 &&& 31)) &&& 255)) 13 ((px4 >>> (16 &&& 31)) &&& 255)) 14 ((px4 >>> (8 &&& 31)) &&& 255) := ⟨_, rfl⟩
  rw [← ef1] at hP hD
  clear ef1
  refine lv_aload_n hx hb dX10_append_33 rfl (lv_at hl 1 rfl) ?_
  refine lv_dup hx hb dX10_append_34 rfl ?_
  refine uGet (ci := 10) (C := RX10) (T := TX10) (N := 10) (v := .int 14) B inlX10 hP 0 rfl rfl 2 rfl mfl_X10_19 rfl rfl dX10_append_35 ?_
  refine lv_iconst (v := 1) hx hb dX10_append_38 (by decide) ?_
  refine lv_iadd hx hb dX10_append_39 ?_
  refine lv_fixi (y := 15) (by decide) ?_
  refine lv_pc (q := 40) rfl ?_
  refine uPut (ci := 10) (C := RX10) (T := TX10) (N := 10) (ws' := [(ph0, .inr (10, [.ref ph1, .ref pg2, .int 15, .int 0, .int 0, .int 0, .int 0, .int 0, .long 0, .int (-1)])), (ph1, .inl (K 0, 1000, .inl f1))]) B inlX10 tyX10_ok nmX10 hP hD hS 0 rfl rfl 2 rfl mfl_X10_19 rfl rfl rfl rfl rfl rfl dX10_append_40 (fun H locs hP hD hS => ?_)
  refine lv_iinc (v := 0) (lv' := [(2, .int 0), (0, .ref ph0), (1, .int px4)]) hx hb dX10_append_43 hl (k := 0) rfl (by decide) (by decide) rfl (fun ls hl => ?_)
  refine lv_goto (tgt := 3) hx hb dX10_append_46 (by decide) ?_
  refine lv_iload_n hx hb dX10_append_3 rfl (lv_at hl 0 rfl) ?_
  refine lv_if_lt (tgt := 49) hx hb dX10_append_4 (by decide) (fun h9 => absurd h9 (by decide)) (fun _ => ?_)
  refine lv_aload_n hx hb dX10_append_7 rfl (lv_at hl 1 rfl) ?_
  refine lv_pc (q := 8) rfl ?_
  refine uGet (ci := 10) (C := RX10) (T := TX10) (N := 10) (v := .int 15) B inlX10 hP 0 rfl rfl 2 rfl mfl_X10_19 rfl rfl dX10_append_8 ?_
  refine lv_sipush (v := 1000) hx hb dX10_append_11 (by decide) ?_
  refine lv_icmp_ge (tgt := 49) hx hb dX10_append_14 (by decide) (fun h9 => absurd h9 (by decide)) (fun _ => ?_)
  refine lv_aload_n hx hb dX10_append_17 rfl (lv_at hl 1 rfl) ?_
  refine uGet (ci := 10) (C := RX10) (T := TX10) (N := 10) (v := .ref ph1) B inlX10 hP 0 rfl rfl 0 rfl mfl_X10_9 rfl rfl dX10_append_18 ?_
  refine lv_aload_n hx hb dX10_append_21 rfl (lv_at hl 1 rfl) ?_
  refine lv_pc (q := 22) rfl ?_
  refine uGet (ci := 10) (C := RX10) (T := TX10) (N := 10) (v := .int 15) B inlX10 hP 0 rfl rfl 2 rfl mfl_X10_19 rfl rfl dX10_append_22 ?_
  refine lv_iload_n hx hb dX10_append_25 rfl (lv_at hl 2 rfl) ?_
  refine lv_iload_n hx hb dX10_append_26 rfl (lv_at hl 0 rfl) ?_
  refine lv_ishr hx hb dX10_append_27 ?_
  refine lv_sipush (v := 255) hx hb dX10_append_28 (by decide) ?_
  refine lv_iand hx hb dX10_append_31 ?_
  refine lv_pc (q := 32) rfl ?_
  refine uIast (i := 15) (j := 15) (ws' := [(ph0, .inr (10, [.ref ph1, .ref pg2, .int 15, .int 0, .int 0, .int 0, .int 0, .int 0, .long 0, .int (-1)])), (ph1, .inl (K 0, 1000, .inl (upd f1 15 ((px4 >>> (0 &&& 31)) &&& 255))))]) B hP hD hS 1 rfl (by decide) rfl rfl dX10_append_32 (fun H locs hP hD hS => ?_)
  refine lv_aload_n hx hb dX10_append_33 rfl (lv_at hl 1 rfl) ?_
  refine lv_dup hx hb dX10_append_34 rfl ?_
  refine uGet (ci := 10) (C := RX10) (T := TX10) (N := 10) (v := .int 15) B inlX10 hP 0 rfl rfl 2 rfl mfl_X10_19 rfl rfl dX10_append_35 ?_
  refine lv_iconst (v := 1) hx hb dX10_append_38 (by decide) ?_
  refine lv_iadd hx hb dX10_append_39 ?_
  refine lv_fixi (y := 16) (by decide) ?_
  refine lv_pc (q := 40) rfl ?_
  refine uPut (ci := 10) (C := RX10) (T := TX10) (N := 10) (ws' := [(ph0, .inr (10, [.ref ph1, .ref pg2, .int 16, .int 0, .int 0, .int 0, .int 0, .int 0, .long 0, .int (-1)])), (ph1, .inl (K 0, 1000, .inl (upd f1 15 ((px4 >>> (0 &&& 31)) &&& 255))))]) B inlX10 tyX10_ok nmX10 hP hD hS 0 rfl rfl 2 rfl mfl_X10_19 rfl rfl rfl rfl rfl rfl dX10_append_40 (fun H locs hP hD hS => ?_)
  refine lv_iinc (v := (-8)) (lv' := [(2, .int (-8)), (0, .ref ph0), (1, .int px4)]) hx hb dX10_append_43 hl (k := 0) rfl (by decide) (by decide) rfl (fun ls hl => ?_)
  refine lv_goto (tgt := 3) hx hb dX10_append_46 (by decide) ?_
  refine lv_iload_n hx hb dX10_append_3 rfl (lv_at hl 0 rfl) ?_
  refine lv_if_lt (tgt := 49) hx hb dX10_append_4 (by decide) (fun _ => ?_) (fun h9 => absurd (by decide) h9)
  exact uRv (upd f1 15 ((px4 >>> (0 &&& 31)) &&& 255)) B trivial (uSub hP [0, 1] rfl) (hD.sub [0, 1] rfl rfl) hS dX10_append_49
def qkX10_append_133 (ph0 : Nat) (ph1 : Nat) (pg2 : Nat) (pf3 : Nat → Int32) (px4 : Int32) : ((Nat → Int32)) → Prop := (fun (u : (Nat → Int32)) => True)
def vkX10_append_133 (K : Nat → ClassId) (ph0 : Nat) (ph1 : Nat) (pg2 : Nat) (pf3 : Nat → Int32) (px4 : Int32) : ((Nat → Int32)) → va_W := (fun (u : (Nat → Int32)) => [(ph0, .inr (10, [.ref ph1, .ref pg2, .int 20, .int 0, .int 0, .int 0, .int 0, .int 0, .long 0, .int (-1)])), (ph1, .inl (K 0, 1000, .inl u))])
set_option maxHeartbeats 4000000 in
set_option maxRecDepth 100000 in
theorem kX10_append_133 (l : Launch) (D : va_G) (K : Nat → ClassId) (sz : Nat) (ph0 : Nat) (ph1 : Nat) (pg2 : Nat) (pf3 : Nat → Int32) (px4 : Int32) : uMv l yX10_append cX10_append 3 { frames := 0, cells := 0, slots := 0, locals := 0 } [.ref ph0, .int px4] D K [(ph0, .inr (10, [.ref ph1, .ref pg2, .int 16, .int 0, .int 0, .int 0, .int 0, .int 0, .long 0, .int (-1)])), (ph1, .inl (K 0, 1000, .inl pf3))] sz (qkX10_append_133 ph0 ph1 pg2 pf3 px4) (vkX10_append_133 K ph0 ph1 pg2 pf3 px4) := by
  refine uMet (Qc := uQv D (qkX10_append_133 ph0 ph1 pg2 pf3 px4) (vkX10_append_133 K ph0 ph1 pg2 pf3 px4)) (ret := none) (by decide) (Nat.le_of_ble_eq_true rfl) ?_
  intro p e s m below meth c A ls hAe hsz B hP hD hS hl
  have hx := B.1
  have hb := B.2.1
  have hl : lv_has ls 3 [(0, .ref ph0), (1, .int px4)] := hl
  refine lv_bipush (v := 24) hx hb dX10_append_0 (by decide) ?_
  refine lv_istore_n (lv' := [(2, .int 24), (0, .ref ph0), (1, .int px4)]) hx hb dX10_append_2 rfl hl (by decide) rfl (fun ls hl => ?_)
  refine lv_iload_n hx hb dX10_append_3 rfl (lv_at hl 0 rfl) ?_
  refine lv_if_lt (tgt := 49) hx hb dX10_append_4 (by decide) (fun h9 => absurd h9 (by decide)) (fun _ => ?_)
  refine lv_aload_n hx hb dX10_append_7 rfl (lv_at hl 1 rfl) ?_
  refine lv_pc (q := 8) rfl ?_
  refine uGet (ci := 10) (C := RX10) (T := TX10) (N := 10) (v := .int 16) B inlX10 hP 0 rfl rfl 2 rfl mfl_X10_19 rfl rfl dX10_append_8 ?_
  refine lv_sipush (v := 1000) hx hb dX10_append_11 (by decide) ?_
  refine lv_icmp_ge (tgt := 49) hx hb dX10_append_14 (by decide) (fun h9 => absurd h9 (by decide)) (fun _ => ?_)
  refine lv_aload_n hx hb dX10_append_17 rfl (lv_at hl 1 rfl) ?_
  refine uGet (ci := 10) (C := RX10) (T := TX10) (N := 10) (v := .ref ph1) B inlX10 hP 0 rfl rfl 0 rfl mfl_X10_9 rfl rfl dX10_append_18 ?_
  refine lv_aload_n hx hb dX10_append_21 rfl (lv_at hl 1 rfl) ?_
  refine lv_pc (q := 22) rfl ?_
  refine uGet (ci := 10) (C := RX10) (T := TX10) (N := 10) (v := .int 16) B inlX10 hP 0 rfl rfl 2 rfl mfl_X10_19 rfl rfl dX10_append_22 ?_
  refine lv_iload_n hx hb dX10_append_25 rfl (lv_at hl 2 rfl) ?_
  refine lv_iload_n hx hb dX10_append_26 rfl (lv_at hl 0 rfl) ?_
  refine lv_ishr hx hb dX10_append_27 ?_
  refine lv_sipush (v := 255) hx hb dX10_append_28 (by decide) ?_
  refine lv_iand hx hb dX10_append_31 ?_
  refine lv_pc (q := 32) rfl ?_
  refine uIast (i := 16) (j := 16) (ws' := [(ph0, .inr (10, [.ref ph1, .ref pg2, .int 16, .int 0, .int 0, .int 0, .int 0, .int 0, .long 0, .int (-1)])), (ph1, .inl (K 0, 1000, .inl (upd pf3 16 ((px4 >>> (24 &&& 31)) &&& 255))))]) B hP hD hS 1 rfl (by decide) rfl rfl dX10_append_32 (fun H locs hP hD hS => ?_)
  refine lv_aload_n hx hb dX10_append_33 rfl (lv_at hl 1 rfl) ?_
  refine lv_dup hx hb dX10_append_34 rfl ?_
  refine uGet (ci := 10) (C := RX10) (T := TX10) (N := 10) (v := .int 16) B inlX10 hP 0 rfl rfl 2 rfl mfl_X10_19 rfl rfl dX10_append_35 ?_
  refine lv_iconst (v := 1) hx hb dX10_append_38 (by decide) ?_
  refine lv_iadd hx hb dX10_append_39 ?_
  refine lv_fixi (y := 17) (by decide) ?_
  refine lv_pc (q := 40) rfl ?_
  refine uPut (ci := 10) (C := RX10) (T := TX10) (N := 10) (ws' := [(ph0, .inr (10, [.ref ph1, .ref pg2, .int 17, .int 0, .int 0, .int 0, .int 0, .int 0, .long 0, .int (-1)])), (ph1, .inl (K 0, 1000, .inl (upd pf3 16 ((px4 >>> (24 &&& 31)) &&& 255))))]) B inlX10 tyX10_ok nmX10 hP hD hS 0 rfl rfl 2 rfl mfl_X10_19 rfl rfl rfl rfl rfl rfl dX10_append_40 (fun H locs hP hD hS => ?_)
  refine lv_iinc (v := 16) (lv' := [(2, .int 16), (0, .ref ph0), (1, .int px4)]) hx hb dX10_append_43 hl (k := 0) rfl (by decide) (by decide) rfl (fun ls hl => ?_)
  refine lv_goto (tgt := 3) hx hb dX10_append_46 (by decide) ?_
  refine lv_iload_n hx hb dX10_append_3 rfl (lv_at hl 0 rfl) ?_
  refine lv_if_lt (tgt := 49) hx hb dX10_append_4 (by decide) (fun h9 => absurd h9 (by decide)) (fun _ => ?_)
  refine lv_aload_n hx hb dX10_append_7 rfl (lv_at hl 1 rfl) ?_
  refine lv_pc (q := 8) rfl ?_
  refine uGet (ci := 10) (C := RX10) (T := TX10) (N := 10) (v := .int 17) B inlX10 hP 0 rfl rfl 2 rfl mfl_X10_19 rfl rfl dX10_append_8 ?_
  refine lv_sipush (v := 1000) hx hb dX10_append_11 (by decide) ?_
  refine lv_icmp_ge (tgt := 49) hx hb dX10_append_14 (by decide) (fun h9 => absurd h9 (by decide)) (fun _ => ?_)
  refine lv_aload_n hx hb dX10_append_17 rfl (lv_at hl 1 rfl) ?_
  refine uGet (ci := 10) (C := RX10) (T := TX10) (N := 10) (v := .ref ph1) B inlX10 hP 0 rfl rfl 0 rfl mfl_X10_9 rfl rfl dX10_append_18 ?_
  refine lv_aload_n hx hb dX10_append_21 rfl (lv_at hl 1 rfl) ?_
  refine lv_pc (q := 22) rfl ?_
  refine uGet (ci := 10) (C := RX10) (T := TX10) (N := 10) (v := .int 17) B inlX10 hP 0 rfl rfl 2 rfl mfl_X10_19 rfl rfl dX10_append_22 ?_
  refine lv_iload_n hx hb dX10_append_25 rfl (lv_at hl 2 rfl) ?_
  refine lv_iload_n hx hb dX10_append_26 rfl (lv_at hl 0 rfl) ?_
  refine lv_ishr hx hb dX10_append_27 ?_
  refine lv_sipush (v := 255) hx hb dX10_append_28 (by decide) ?_
  refine lv_iand hx hb dX10_append_31 ?_
  refine lv_pc (q := 32) rfl ?_
  refine uIast (i := 17) (j := 17) (ws' := [(ph0, .inr (10, [.ref ph1, .ref pg2, .int 17, .int 0, .int 0, .int 0, .int 0, .int 0, .long 0, .int (-1)])), (ph1, .inl (K 0, 1000, .inl (upd (upd pf3 16 ((px4 >>> (24 &&& 31)) &&& 255)) 17 ((px4 >>> (16 &&& 31)) &&& 255))))]) B hP hD hS 1 rfl (by decide) rfl rfl dX10_append_32 (fun H locs hP hD hS => ?_)
  refine lv_aload_n hx hb dX10_append_33 rfl (lv_at hl 1 rfl) ?_
  refine lv_dup hx hb dX10_append_34 rfl ?_
  refine uGet (ci := 10) (C := RX10) (T := TX10) (N := 10) (v := .int 17) B inlX10 hP 0 rfl rfl 2 rfl mfl_X10_19 rfl rfl dX10_append_35 ?_
  refine lv_iconst (v := 1) hx hb dX10_append_38 (by decide) ?_
  refine lv_iadd hx hb dX10_append_39 ?_
  refine lv_fixi (y := 18) (by decide) ?_
  refine lv_pc (q := 40) rfl ?_
  refine uPut (ci := 10) (C := RX10) (T := TX10) (N := 10) (ws' := [(ph0, .inr (10, [.ref ph1, .ref pg2, .int 18, .int 0, .int 0, .int 0, .int 0, .int 0, .long 0, .int (-1)])), (ph1, .inl (K 0, 1000, .inl (upd (upd pf3 16 ((px4 >>> (24 &&& 31)) &&& 255)) 17 ((px4 >>> (16 &&& 31)) &&& 255))))]) B inlX10 tyX10_ok nmX10 hP hD hS 0 rfl rfl 2 rfl mfl_X10_19 rfl rfl rfl rfl rfl rfl dX10_append_40 (fun H locs hP hD hS => ?_)
  refine lv_iinc (v := 8) (lv' := [(2, .int 8), (0, .ref ph0), (1, .int px4)]) hx hb dX10_append_43 hl (k := 0) rfl (by decide) (by decide) rfl (fun ls hl => ?_)
  refine lv_goto (tgt := 3) hx hb dX10_append_46 (by decide) ?_
  refine lv_iload_n hx hb dX10_append_3 rfl (lv_at hl 0 rfl) ?_
  refine lv_if_lt (tgt := 49) hx hb dX10_append_4 (by decide) (fun h9 => absurd h9 (by decide)) (fun _ => ?_)
  refine lv_aload_n hx hb dX10_append_7 rfl (lv_at hl 1 rfl) ?_
  refine lv_pc (q := 8) rfl ?_
  refine uGet (ci := 10) (C := RX10) (T := TX10) (N := 10) (v := .int 18) B inlX10 hP 0 rfl rfl 2 rfl mfl_X10_19 rfl rfl dX10_append_8 ?_
  refine lv_sipush (v := 1000) hx hb dX10_append_11 (by decide) ?_
  refine lv_icmp_ge (tgt := 49) hx hb dX10_append_14 (by decide) (fun h9 => absurd h9 (by decide)) (fun _ => ?_)
  refine lv_aload_n hx hb dX10_append_17 rfl (lv_at hl 1 rfl) ?_
  refine uGet (ci := 10) (C := RX10) (T := TX10) (N := 10) (v := .ref ph1) B inlX10 hP 0 rfl rfl 0 rfl mfl_X10_9 rfl rfl dX10_append_18 ?_
  refine lv_aload_n hx hb dX10_append_21 rfl (lv_at hl 1 rfl) ?_
  refine lv_pc (q := 22) rfl ?_
  refine uGet (ci := 10) (C := RX10) (T := TX10) (N := 10) (v := .int 18) B inlX10 hP 0 rfl rfl 2 rfl mfl_X10_19 rfl rfl dX10_append_22 ?_
  refine lv_iload_n hx hb dX10_append_25 rfl (lv_at hl 2 rfl) ?_
  refine lv_iload_n hx hb dX10_append_26 rfl (lv_at hl 0 rfl) ?_
  refine lv_ishr hx hb dX10_append_27 ?_
  refine lv_sipush (v := 255) hx hb dX10_append_28 (by decide) ?_
  refine lv_iand hx hb dX10_append_31 ?_
  refine lv_pc (q := 32) rfl ?_
  refine uIast (i := 18) (j := 18) (ws' := [(ph0, .inr (10, [.ref ph1, .ref pg2, .int 18, .int 0, .int 0, .int 0, .int 0, .int 0, .long 0, .int (-1)])), (ph1, .inl (K 0, 1000, .inl (upd (upd (upd pf3 16 ((px4 >>> (24 &&& 31)) &&& 255)) 17 ((px4 >>> (16 &&& 31)) &&& 255)) 18 ((px4 >>> (8 &&& 31)) &&& 255))))]) B hP hD hS 1 rfl (by decide) rfl rfl dX10_append_32 (fun H locs hP hD hS => ?_)
  obtain ⟨f1, ef1⟩ : ∃ y : Nat → Int32, y = upd (upd (upd pf3 16 ((px4 >>> (24 &&& 31)) &&& 255)) 17 ((px4 >>> (16 &&& 31)) &&& 255)) 18 ((px4 >>> (8 &&& 31)) &&& 255) := ⟨_, rfl⟩
  rw [← ef1] at hP hD
  clear ef1
  refine lv_aload_n hx hb dX10_append_33 rfl (lv_at hl 1 rfl) ?_
  refine lv_dup hx hb dX10_append_34 rfl ?_
  refine uGet (ci := 10) (C := RX10) (T := TX10) (N := 10) (v := .int 18) B inlX10 hP 0 rfl rfl 2 rfl mfl_X10_19 rfl rfl dX10_append_35 ?_
  refine lv_iconst (v := 1) hx hb dX10_append_38 (by decide) ?_
  refine lv_iadd hx hb dX10_append_39 ?_
  refine lv_fixi (y := 19) (by decide) ?_
  refine lv_pc (q := 40) rfl ?_
  refine uPut (ci := 10) (C := RX10) (T := TX10) (N := 10) (ws' := [(ph0, .inr (10, [.ref ph1, .ref pg2, .int 19, .int 0, .int 0, .int 0, .int 0, .int 0, .long 0, .int (-1)])), (ph1, .inl (K 0, 1000, .inl f1))]) B inlX10 tyX10_ok nmX10 hP hD hS 0 rfl rfl 2 rfl mfl_X10_19 rfl rfl rfl rfl rfl rfl dX10_append_40 (fun H locs hP hD hS => ?_)
  refine lv_iinc (v := 0) (lv' := [(2, .int 0), (0, .ref ph0), (1, .int px4)]) hx hb dX10_append_43 hl (k := 0) rfl (by decide) (by decide) rfl (fun ls hl => ?_)
  refine lv_goto (tgt := 3) hx hb dX10_append_46 (by decide) ?_
  refine lv_iload_n hx hb dX10_append_3 rfl (lv_at hl 0 rfl) ?_
  refine lv_if_lt (tgt := 49) hx hb dX10_append_4 (by decide) (fun h9 => absurd h9 (by decide)) (fun _ => ?_)
  refine lv_aload_n hx hb dX10_append_7 rfl (lv_at hl 1 rfl) ?_
  refine lv_pc (q := 8) rfl ?_
  refine uGet (ci := 10) (C := RX10) (T := TX10) (N := 10) (v := .int 19) B inlX10 hP 0 rfl rfl 2 rfl mfl_X10_19 rfl rfl dX10_append_8 ?_
  refine lv_sipush (v := 1000) hx hb dX10_append_11 (by decide) ?_
  refine lv_icmp_ge (tgt := 49) hx hb dX10_append_14 (by decide) (fun h9 => absurd h9 (by decide)) (fun _ => ?_)
  refine lv_aload_n hx hb dX10_append_17 rfl (lv_at hl 1 rfl) ?_
  refine uGet (ci := 10) (C := RX10) (T := TX10) (N := 10) (v := .ref ph1) B inlX10 hP 0 rfl rfl 0 rfl mfl_X10_9 rfl rfl dX10_append_18 ?_
  refine lv_aload_n hx hb dX10_append_21 rfl (lv_at hl 1 rfl) ?_
  refine lv_pc (q := 22) rfl ?_
  refine uGet (ci := 10) (C := RX10) (T := TX10) (N := 10) (v := .int 19) B inlX10 hP 0 rfl rfl 2 rfl mfl_X10_19 rfl rfl dX10_append_22 ?_
  refine lv_iload_n hx hb dX10_append_25 rfl (lv_at hl 2 rfl) ?_
  refine lv_iload_n hx hb dX10_append_26 rfl (lv_at hl 0 rfl) ?_
  refine lv_ishr hx hb dX10_append_27 ?_
  refine lv_sipush (v := 255) hx hb dX10_append_28 (by decide) ?_
  refine lv_iand hx hb dX10_append_31 ?_
  refine lv_pc (q := 32) rfl ?_
  refine uIast (i := 19) (j := 19) (ws' := [(ph0, .inr (10, [.ref ph1, .ref pg2, .int 19, .int 0, .int 0, .int 0, .int 0, .int 0, .long 0, .int (-1)])), (ph1, .inl (K 0, 1000, .inl (upd f1 19 ((px4 >>> (0 &&& 31)) &&& 255))))]) B hP hD hS 1 rfl (by decide) rfl rfl dX10_append_32 (fun H locs hP hD hS => ?_)
  refine lv_aload_n hx hb dX10_append_33 rfl (lv_at hl 1 rfl) ?_
  refine lv_dup hx hb dX10_append_34 rfl ?_
  refine uGet (ci := 10) (C := RX10) (T := TX10) (N := 10) (v := .int 19) B inlX10 hP 0 rfl rfl 2 rfl mfl_X10_19 rfl rfl dX10_append_35 ?_
  refine lv_iconst (v := 1) hx hb dX10_append_38 (by decide) ?_
  refine lv_iadd hx hb dX10_append_39 ?_
  refine lv_fixi (y := 20) (by decide) ?_
  refine lv_pc (q := 40) rfl ?_
  refine uPut (ci := 10) (C := RX10) (T := TX10) (N := 10) (ws' := [(ph0, .inr (10, [.ref ph1, .ref pg2, .int 20, .int 0, .int 0, .int 0, .int 0, .int 0, .long 0, .int (-1)])), (ph1, .inl (K 0, 1000, .inl (upd f1 19 ((px4 >>> (0 &&& 31)) &&& 255))))]) B inlX10 tyX10_ok nmX10 hP hD hS 0 rfl rfl 2 rfl mfl_X10_19 rfl rfl rfl rfl rfl rfl dX10_append_40 (fun H locs hP hD hS => ?_)
  refine lv_iinc (v := (-8)) (lv' := [(2, .int (-8)), (0, .ref ph0), (1, .int px4)]) hx hb dX10_append_43 hl (k := 0) rfl (by decide) (by decide) rfl (fun ls hl => ?_)
  refine lv_goto (tgt := 3) hx hb dX10_append_46 (by decide) ?_
  refine lv_iload_n hx hb dX10_append_3 rfl (lv_at hl 0 rfl) ?_
  refine lv_if_lt (tgt := 49) hx hb dX10_append_4 (by decide) (fun _ => ?_) (fun h9 => absurd (by decide) h9)
  exact uRv (upd f1 19 ((px4 >>> (0 &&& 31)) &&& 255)) B trivial (uSub hP [0, 1] rfl) (hD.sub [0, 1] rfl rfl) hS dX10_append_49
def qkX11_feed_134 (ph0 : Nat) (ph1 : Nat) (ph2 : Nat) (pg3 : Nat) (pg4 : Nat) (pg5 : Nat) (pg6 : Nat) (pg7 : Nat) (pg8 : Nat) (pg9 : Nat) (pg10 : Nat) (pg11 : Nat) (pg12 : Nat) (pg13 : Nat) (pf14 : Nat → Int32) (px15 : Int32) (px16 : Int32) (px17 : Int32) (px18 : Int32) (px19 : Int32) : Int32 → (Unit) → Prop := (fun (r : Int32) (u : Unit) => r = 20)
def vkX11_feed_134 (K : Nat → ClassId) (ph0 : Nat) (ph1 : Nat) (ph2 : Nat) (pg3 : Nat) (pg4 : Nat) (pg5 : Nat) (pg6 : Nat) (pg7 : Nat) (pg8 : Nat) (pg9 : Nat) (pg10 : Nat) (pg11 : Nat) (pg12 : Nat) (pg13 : Nat) (pf14 : Nat → Int32) (px15 : Int32) (px16 : Int32) (px17 : Int32) (px18 : Int32) (px19 : Int32) : (Unit) → va_W := (fun (u : Unit) => [])
set_option maxHeartbeats 4000000 in
set_option maxRecDepth 100000 in
theorem kX11_feed_134 (l : Launch) (D : va_G) (K : Nat → ClassId) (sz : Nat) (ph0 : Nat) (ph1 : Nat) (ph2 : Nat) (pg3 : Nat) (pg4 : Nat) (pg5 : Nat) (pg6 : Nat) (pg7 : Nat) (pg8 : Nat) (pg9 : Nat) (pg10 : Nat) (pg11 : Nat) (pg12 : Nat) (pg13 : Nat) (pf14 : Nat → Int32) (px15 : Int32) (px16 : Int32) (px17 : Int32) (px18 : Int32) (px19 : Int32) : uMi l yX11_feed cX11_feed 6 (some .int) { frames := 1, cells := 0, slots := 0, locals := 22 } [.ref ph0, .int px15, .int px16, .int px17, .int px18, .int px19] D K [(ph0, .inr (11, [.ref pg3, .ref pg4, .ref pg5, .ref pg6, .ref pg7, .ref pg8, .ref ph1, .ref pg9, .ref pg10, .ref pg11, .ref pg12])), (ph1, .inr (10, [.ref ph2, .ref pg13, .int 0, .int 0, .int 0, .int 0, .int 0, .int 0, .long 0, .int (-1)])), (ph2, .inl (K 0, 1000, .inl pf14))] sz (qkX11_feed_134 ph0 ph1 ph2 pg3 pg4 pg5 pg6 pg7 pg8 pg9 pg10 pg11 pg12 pg13 pf14 px15 px16 px17 px18 px19) (vkX11_feed_134 K ph0 ph1 ph2 pg3 pg4 pg5 pg6 pg7 pg8 pg9 pg10 pg11 pg12 pg13 pf14 px15 px16 px17 px18 px19) := by
  refine uMet (Qc := uQi D (qkX11_feed_134 ph0 ph1 ph2 pg3 pg4 pg5 pg6 pg7 pg8 pg9 pg10 pg11 pg12 pg13 pf14 px15 px16 px17 px18 px19) (vkX11_feed_134 K ph0 ph1 ph2 pg3 pg4 pg5 pg6 pg7 pg8 pg9 pg10 pg11 pg12 pg13 pf14 px15 px16 px17 px18 px19)) (ret := (some .int)) (by decide) (Nat.le_of_ble_eq_true rfl) ?_
  intro p e s m below meth c A ls hAe hsz B hP hD hS hl
  have hx := B.1
  have hb := B.2.1
  have hl : lv_has ls 6 [(0, .ref ph0), (1, .int px15), (2, .int px16), (3, .int px17), (4, .int px18), (5, .int px19)] := hl
  refine lv_aload_n hx hb dX11_feed_0 rfl (lv_at hl 0 rfl) ?_
  refine uGet (ci := 11) (C := RX11) (T := TX11) (N := 11) (v := .ref ph1) B inlX11 hP 0 rfl rfl 6 rfl mfl_X11_60 rfl rfl dX11_feed_1 ?_
  refine uVi (As := []) (rest := []) (wr := [(ph0, .inr (11, [.ref pg3, .ref pg4, .ref pg5, .ref pg6, .ref pg7, .ref pg8, .ref ph1, .ref pg9, .ref pg10, .ref pg11, .ref pg12])), (ph2, .inl (K 0, 1000, .inl pf14))]) [(ph1, .inr (10, [.ref ph2, .ref pg13, .int 0, .int 0, .int 0, .int 0, .int 0, .int 0, .long 0, .int (-1)]))] B hl.1 hP hD hS [1] [0, 2] rfl rfl rfl (kX10_hasRoom_128 l D K _ ph1 ph2 pg13) wd_X10_hasRoom mml_X11_219 rfl rfl rfl rfl ⟨Nat.le_of_ble_eq_true rfl, Nat.le_of_ble_eq_true rfl⟩ (Nat.le_of_ble_eq_true rfl) ⟨Nat.le_of_ble_eq_true rfl, Nat.le_of_ble_eq_true rfl⟩ dX11_feed_4 (fun r1 u H locs hw hP hD hS => ?_)
  try dsimp only at hw
  rcases hw with rfl
  have hP : va_P D vwCl [(ph0, .inr (11, [.ref pg3, .ref pg4, .ref pg5, .ref pg6, .ref pg7, .ref pg8, .ref ph1, .ref pg9, .ref pg10, .ref pg11, .ref pg12])), (ph2, .inl (K 0, 1000, .inl pf14)), (ph1, .inr (10, [.ref ph2, .ref pg13, .int 0, .int 0, .int 0, .int 0, .int 0, .int 0, .long 0, .int (-1)]))] H := hP
  have hD : va_D A [(ph0, .inr (11, [.ref pg3, .ref pg4, .ref pg5, .ref pg6, .ref pg7, .ref pg8, .ref ph1, .ref pg9, .ref pg10, .ref pg11, .ref pg12])), (ph2, .inl (K 0, 1000, .inl pf14)), (ph1, .inr (10, [.ref ph2, .ref pg13, .int 0, .int 0, .int 0, .int 0, .int 0, .int 0, .long 0, .int (-1)]))] := hD
  refine lv_if_ne (tgt := 12) hx hb dX11_feed_7 (by decide) (fun _ => ?_) (fun h9 => absurd h9 (by decide))
  refine lv_aload_n hx hb dX11_feed_12 rfl (lv_at hl 0 rfl) ?_
  refine lv_pc (q := 13) rfl ?_
  refine uGet (ci := 11) (C := RX11) (T := TX11) (N := 11) (v := .ref ph1) B inlX11 hP 0 rfl rfl 6 rfl mfl_X11_60 rfl rfl dX11_feed_13 ?_
  refine lv_iload_n hx hb dX11_feed_16 rfl (lv_at hl 1 rfl) ?_
  refine uVv (As := [.int px15]) (rest := []) (wr := [(ph0, .inr (11, [.ref pg3, .ref pg4, .ref pg5, .ref pg6, .ref pg7, .ref pg8, .ref ph1, .ref pg9, .ref pg10, .ref pg11, .ref pg12]))]) [(ph1, .inr (10, [.ref ph2, .ref pg13, .int 0, .int 0, .int 0, .int 0, .int 0, .int 0, .long 0, .int (-1)])), (ph2, .inl (K 0, 1000, .inl pf14))] B hl.1 hP hD hS [2, 1] [0] rfl rfl rfl (kX10_append_129 l D K _ ph1 ph2 pg13 pf14 px15) wd_X10_append mml_X11_223 rfl rfl rfl rfl ⟨Nat.le_of_ble_eq_true rfl, Nat.le_of_ble_eq_true rfl⟩ (Nat.le_of_ble_eq_true rfl) ⟨Nat.le_of_ble_eq_true rfl, Nat.le_of_ble_eq_true rfl⟩ dX11_feed_17 (fun u H locs hw hP hD hS => ?_)
  obtain ⟨u3, e9⟩ : ∃ y, y = u := ⟨_, rfl⟩
  subst e9
  try dsimp only at hw
  have hP : va_P D vwCl [(ph0, .inr (11, [.ref pg3, .ref pg4, .ref pg5, .ref pg6, .ref pg7, .ref pg8, .ref ph1, .ref pg9, .ref pg10, .ref pg11, .ref pg12])), (ph1, .inr (10, [.ref ph2, .ref pg13, .int 4, .int 0, .int 0, .int 0, .int 0, .int 0, .long 0, .int (-1)])), (ph2, .inl (K 0, 1000, .inl u3))] H := hP
  have hD : va_D A [(ph0, .inr (11, [.ref pg3, .ref pg4, .ref pg5, .ref pg6, .ref pg7, .ref pg8, .ref ph1, .ref pg9, .ref pg10, .ref pg11, .ref pg12])), (ph1, .inr (10, [.ref ph2, .ref pg13, .int 4, .int 0, .int 0, .int 0, .int 0, .int 0, .long 0, .int (-1)])), (ph2, .inl (K 0, 1000, .inl u3))] := hD
  refine lv_aload_n hx hb dX11_feed_20 rfl (lv_at hl 0 rfl) ?_
  refine uGet (ci := 11) (C := RX11) (T := TX11) (N := 11) (v := .ref ph1) B inlX11 hP 0 rfl rfl 6 rfl mfl_X11_60 rfl rfl dX11_feed_21 ?_
  refine lv_iload_n hx hb dX11_feed_24 rfl (lv_at hl 2 rfl) ?_
  refine lv_pc (q := 25) rfl ?_
  refine uVv (As := [.int px16]) (rest := []) (wr := [(ph0, .inr (11, [.ref pg3, .ref pg4, .ref pg5, .ref pg6, .ref pg7, .ref pg8, .ref ph1, .ref pg9, .ref pg10, .ref pg11, .ref pg12]))]) [(ph1, .inr (10, [.ref ph2, .ref pg13, .int 4, .int 0, .int 0, .int 0, .int 0, .int 0, .long 0, .int (-1)])), (ph2, .inl (K 0, 1000, .inl u3))] B hl.1 hP hD hS [1, 2] [0] rfl rfl rfl (kX10_append_130 l D K _ ph1 ph2 pg13 u3 px16) wd_X10_append mml_X11_223 rfl rfl rfl rfl ⟨Nat.le_of_ble_eq_true rfl, Nat.le_of_ble_eq_true rfl⟩ (Nat.le_of_ble_eq_true rfl) ⟨Nat.le_of_ble_eq_true rfl, Nat.le_of_ble_eq_true rfl⟩ dX11_feed_25 (fun u H locs hw hP hD hS => ?_)
  obtain ⟨u5, e9⟩ : ∃ y, y = u := ⟨_, rfl⟩
  subst e9
  try dsimp only at hw
  have hP : va_P D vwCl [(ph0, .inr (11, [.ref pg3, .ref pg4, .ref pg5, .ref pg6, .ref pg7, .ref pg8, .ref ph1, .ref pg9, .ref pg10, .ref pg11, .ref pg12])), (ph1, .inr (10, [.ref ph2, .ref pg13, .int 8, .int 0, .int 0, .int 0, .int 0, .int 0, .long 0, .int (-1)])), (ph2, .inl (K 0, 1000, .inl u5))] H := hP
  have hD : va_D A [(ph0, .inr (11, [.ref pg3, .ref pg4, .ref pg5, .ref pg6, .ref pg7, .ref pg8, .ref ph1, .ref pg9, .ref pg10, .ref pg11, .ref pg12])), (ph1, .inr (10, [.ref ph2, .ref pg13, .int 8, .int 0, .int 0, .int 0, .int 0, .int 0, .long 0, .int (-1)])), (ph2, .inl (K 0, 1000, .inl u5))] := hD
  refine lv_aload_n hx hb dX11_feed_28 rfl (lv_at hl 0 rfl) ?_
  refine uGet (ci := 11) (C := RX11) (T := TX11) (N := 11) (v := .ref ph1) B inlX11 hP 0 rfl rfl 6 rfl mfl_X11_60 rfl rfl dX11_feed_29 ?_
  refine lv_iload_n hx hb dX11_feed_32 rfl (lv_at hl 3 rfl) ?_
  refine uVv (As := [.int px17]) (rest := []) (wr := [(ph0, .inr (11, [.ref pg3, .ref pg4, .ref pg5, .ref pg6, .ref pg7, .ref pg8, .ref ph1, .ref pg9, .ref pg10, .ref pg11, .ref pg12]))]) [(ph1, .inr (10, [.ref ph2, .ref pg13, .int 8, .int 0, .int 0, .int 0, .int 0, .int 0, .long 0, .int (-1)])), (ph2, .inl (K 0, 1000, .inl u5))] B hl.1 hP hD hS [1, 2] [0] rfl rfl rfl (kX10_append_131 l D K _ ph1 ph2 pg13 u5 px17) wd_X10_append mml_X11_223 rfl rfl rfl rfl ⟨Nat.le_of_ble_eq_true rfl, Nat.le_of_ble_eq_true rfl⟩ (Nat.le_of_ble_eq_true rfl) ⟨Nat.le_of_ble_eq_true rfl, Nat.le_of_ble_eq_true rfl⟩ dX11_feed_33 (fun u H locs hw hP hD hS => ?_)
  obtain ⟨u7, e9⟩ : ∃ y, y = u := ⟨_, rfl⟩
  subst e9
  try dsimp only at hw
  have hP : va_P D vwCl [(ph0, .inr (11, [.ref pg3, .ref pg4, .ref pg5, .ref pg6, .ref pg7, .ref pg8, .ref ph1, .ref pg9, .ref pg10, .ref pg11, .ref pg12])), (ph1, .inr (10, [.ref ph2, .ref pg13, .int 12, .int 0, .int 0, .int 0, .int 0, .int 0, .long 0, .int (-1)])), (ph2, .inl (K 0, 1000, .inl u7))] H := hP
  have hD : va_D A [(ph0, .inr (11, [.ref pg3, .ref pg4, .ref pg5, .ref pg6, .ref pg7, .ref pg8, .ref ph1, .ref pg9, .ref pg10, .ref pg11, .ref pg12])), (ph1, .inr (10, [.ref ph2, .ref pg13, .int 12, .int 0, .int 0, .int 0, .int 0, .int 0, .long 0, .int (-1)])), (ph2, .inl (K 0, 1000, .inl u7))] := hD
  refine lv_aload_n hx hb dX11_feed_36 rfl (lv_at hl 0 rfl) ?_
  refine lv_pc (q := 37) rfl ?_
  refine uGet (ci := 11) (C := RX11) (T := TX11) (N := 11) (v := .ref ph1) B inlX11 hP 0 rfl rfl 6 rfl mfl_X11_60 rfl rfl dX11_feed_37 ?_
  refine lv_iload hx hb dX11_feed_40 (lv_at hl 4 rfl) ?_
  refine uVv (As := [.int px18]) (rest := []) (wr := [(ph0, .inr (11, [.ref pg3, .ref pg4, .ref pg5, .ref pg6, .ref pg7, .ref pg8, .ref ph1, .ref pg9, .ref pg10, .ref pg11, .ref pg12]))]) [(ph1, .inr (10, [.ref ph2, .ref pg13, .int 12, .int 0, .int 0, .int 0, .int 0, .int 0, .long 0, .int (-1)])), (ph2, .inl (K 0, 1000, .inl u7))] B hl.1 hP hD hS [1, 2] [0] rfl rfl rfl (kX10_append_132 l D K _ ph1 ph2 pg13 u7 px18) wd_X10_append mml_X11_223 rfl rfl rfl rfl ⟨Nat.le_of_ble_eq_true rfl, Nat.le_of_ble_eq_true rfl⟩ (Nat.le_of_ble_eq_true rfl) ⟨Nat.le_of_ble_eq_true rfl, Nat.le_of_ble_eq_true rfl⟩ dX11_feed_42 (fun u H locs hw hP hD hS => ?_)
  obtain ⟨u9, e9⟩ : ∃ y, y = u := ⟨_, rfl⟩
  subst e9
  try dsimp only at hw
  have hP : va_P D vwCl [(ph0, .inr (11, [.ref pg3, .ref pg4, .ref pg5, .ref pg6, .ref pg7, .ref pg8, .ref ph1, .ref pg9, .ref pg10, .ref pg11, .ref pg12])), (ph1, .inr (10, [.ref ph2, .ref pg13, .int 16, .int 0, .int 0, .int 0, .int 0, .int 0, .long 0, .int (-1)])), (ph2, .inl (K 0, 1000, .inl u9))] H := hP
  have hD : va_D A [(ph0, .inr (11, [.ref pg3, .ref pg4, .ref pg5, .ref pg6, .ref pg7, .ref pg8, .ref ph1, .ref pg9, .ref pg10, .ref pg11, .ref pg12])), (ph1, .inr (10, [.ref ph2, .ref pg13, .int 16, .int 0, .int 0, .int 0, .int 0, .int 0, .long 0, .int (-1)])), (ph2, .inl (K 0, 1000, .inl u9))] := hD
  refine lv_aload_n hx hb dX11_feed_45 rfl (lv_at hl 0 rfl) ?_
  refine uGet (ci := 11) (C := RX11) (T := TX11) (N := 11) (v := .ref ph1) B inlX11 hP 0 rfl rfl 6 rfl mfl_X11_60 rfl rfl dX11_feed_46 ?_
  refine lv_iload hx hb dX11_feed_49 (lv_at hl 5 rfl) ?_
  refine lv_pc (q := 51) rfl ?_
  refine uVv (As := [.int px19]) (rest := []) (wr := [(ph0, .inr (11, [.ref pg3, .ref pg4, .ref pg5, .ref pg6, .ref pg7, .ref pg8, .ref ph1, .ref pg9, .ref pg10, .ref pg11, .ref pg12]))]) [(ph1, .inr (10, [.ref ph2, .ref pg13, .int 16, .int 0, .int 0, .int 0, .int 0, .int 0, .long 0, .int (-1)])), (ph2, .inl (K 0, 1000, .inl u9))] B hl.1 hP hD hS [1, 2] [0] rfl rfl rfl (kX10_append_133 l D K _ ph1 ph2 pg13 u9 px19) wd_X10_append mml_X11_223 rfl rfl rfl rfl ⟨Nat.le_of_ble_eq_true rfl, Nat.le_of_ble_eq_true rfl⟩ (Nat.le_of_ble_eq_true rfl) ⟨Nat.le_of_ble_eq_true rfl, Nat.le_of_ble_eq_true rfl⟩ dX11_feed_51 (fun u H locs hw hP hD hS => ?_)
  obtain ⟨u11, e9⟩ : ∃ y, y = u := ⟨_, rfl⟩
  subst e9
  try dsimp only at hw
  have hP : va_P D vwCl [(ph0, .inr (11, [.ref pg3, .ref pg4, .ref pg5, .ref pg6, .ref pg7, .ref pg8, .ref ph1, .ref pg9, .ref pg10, .ref pg11, .ref pg12])), (ph1, .inr (10, [.ref ph2, .ref pg13, .int 20, .int 0, .int 0, .int 0, .int 0, .int 0, .long 0, .int (-1)])), (ph2, .inl (K 0, 1000, .inl u11))] H := hP
  have hD : va_D A [(ph0, .inr (11, [.ref pg3, .ref pg4, .ref pg5, .ref pg6, .ref pg7, .ref pg8, .ref ph1, .ref pg9, .ref pg10, .ref pg11, .ref pg12])), (ph1, .inr (10, [.ref ph2, .ref pg13, .int 20, .int 0, .int 0, .int 0, .int 0, .int 0, .long 0, .int (-1)])), (ph2, .inl (K 0, 1000, .inl u11))] := hD
  refine lv_aload_n hx hb dX11_feed_54 rfl (lv_at hl 0 rfl) ?_
  refine uGet (ci := 11) (C := RX11) (T := TX11) (N := 11) (v := .ref ph1) B inlX11 hP 0 rfl rfl 6 rfl mfl_X11_60 rfl rfl dX11_feed_55 ?_
  refine uGet (ci := 10) (C := RX10) (T := TX10) (N := 10) (v := .int 20) B inlX10 hP 1 rfl rfl 2 rfl mfl_X11_227 rfl rfl dX11_feed_58 ?_
  exact uRi () B rfl (uSub hP [] rfl) (hD.sub [] rfl rfl) hS dX11_feed_61
def qkX12_feed_135 (ph0 : Nat) (ph1 : Nat) (pg2 : Nat) (pg3 : Nat) (pg4 : Nat) (pg5 : Nat) (pg6 : Nat) (pg7 : Nat) (pg8 : Nat) (pg9 : Nat) (pg10 : Nat) (pg11 : Nat) (pg12 : Nat) (pg13 : Nat) (pg14 : Nat) (pg15 : Nat) (pg16 : Nat) (pg17 : Nat) (pg18 : Nat) (pg19 : Nat) (pg20 : Nat) (pg21 : Nat) (pg22 : Nat) (pg23 : Nat) (pg24 : Nat) (pg25 : Nat) (pg26 : Nat) (pg27 : Nat) (pg28 : Nat) (pg29 : Nat) (pg30 : Nat) (pg31 : Nat) (pg32 : Nat) (pg33 : Nat) (pg34 : Nat) (pg35 : Nat) (pg36 : Nat) (pg37 : Nat) (pg38 : Nat) (pg39 : Nat) (pg40 : Nat) (pg41 : Nat) (pg42 : Nat) (pg43 : Nat) (pg44 : Nat) (pg45 : Nat) (pg46 : Nat) (pg47 : Nat) (pg48 : Nat) (pg49 : Nat) (pg50 : Nat) (pg51 : Nat) (pg52 : Nat) (pg53 : Nat) (pg54 : Nat) (pg55 : Nat) (pg56 : Nat) (pg57 : Nat) (pg58 : Nat) (pg59 : Nat) (pg60 : Nat) (pg61 : Nat) (pg62 : Nat) (pg63 : Nat) (pg64 : Nat) (pg65 : Nat) (pg66 : Nat) (pf67 : Nat → Int32) (px68 : Int32) (px69 : Int32) (px70 : Int32) (px71 : Int32) (px72 : Int32) : Int32 → (Unit) → Prop := (fun (r : Int32) (u : Unit) => r = 20)
def vkX12_feed_135 (K : Nat → ClassId) (ph0 : Nat) (ph1 : Nat) (pg2 : Nat) (pg3 : Nat) (pg4 : Nat) (pg5 : Nat) (pg6 : Nat) (pg7 : Nat) (pg8 : Nat) (pg9 : Nat) (pg10 : Nat) (pg11 : Nat) (pg12 : Nat) (pg13 : Nat) (pg14 : Nat) (pg15 : Nat) (pg16 : Nat) (pg17 : Nat) (pg18 : Nat) (pg19 : Nat) (pg20 : Nat) (pg21 : Nat) (pg22 : Nat) (pg23 : Nat) (pg24 : Nat) (pg25 : Nat) (pg26 : Nat) (pg27 : Nat) (pg28 : Nat) (pg29 : Nat) (pg30 : Nat) (pg31 : Nat) (pg32 : Nat) (pg33 : Nat) (pg34 : Nat) (pg35 : Nat) (pg36 : Nat) (pg37 : Nat) (pg38 : Nat) (pg39 : Nat) (pg40 : Nat) (pg41 : Nat) (pg42 : Nat) (pg43 : Nat) (pg44 : Nat) (pg45 : Nat) (pg46 : Nat) (pg47 : Nat) (pg48 : Nat) (pg49 : Nat) (pg50 : Nat) (pg51 : Nat) (pg52 : Nat) (pg53 : Nat) (pg54 : Nat) (pg55 : Nat) (pg56 : Nat) (pg57 : Nat) (pg58 : Nat) (pg59 : Nat) (pg60 : Nat) (pg61 : Nat) (pg62 : Nat) (pg63 : Nat) (pg64 : Nat) (pg65 : Nat) (pg66 : Nat) (pf67 : Nat → Int32) (px68 : Int32) (px69 : Int32) (px70 : Int32) (px71 : Int32) (px72 : Int32) : (Unit) → va_W := (fun (u : Unit) => [])
set_option maxHeartbeats 4000000 in
set_option maxRecDepth 100000 in
theorem kX12_feed_135 (l : Launch) (D : va_G) (K : Nat → ClassId) (sz : Nat) (ph0 : Nat) (ph1 : Nat) (pg2 : Nat) (pg3 : Nat) (pg4 : Nat) (pg5 : Nat) (pg6 : Nat) (pg7 : Nat) (pg8 : Nat) (pg9 : Nat) (pg10 : Nat) (pg11 : Nat) (pg12 : Nat) (pg13 : Nat) (pg14 : Nat) (pg15 : Nat) (pg16 : Nat) (pg17 : Nat) (pg18 : Nat) (pg19 : Nat) (pg20 : Nat) (pg21 : Nat) (pg22 : Nat) (pg23 : Nat) (pg24 : Nat) (pg25 : Nat) (pg26 : Nat) (pg27 : Nat) (pg28 : Nat) (pg29 : Nat) (pg30 : Nat) (pg31 : Nat) (pg32 : Nat) (pg33 : Nat) (pg34 : Nat) (pg35 : Nat) (pg36 : Nat) (pg37 : Nat) (pg38 : Nat) (pg39 : Nat) (pg40 : Nat) (pg41 : Nat) (pg42 : Nat) (pg43 : Nat) (pg44 : Nat) (pg45 : Nat) (pg46 : Nat) (pg47 : Nat) (pg48 : Nat) (pg49 : Nat) (pg50 : Nat) (pg51 : Nat) (pg52 : Nat) (pg53 : Nat) (pg54 : Nat) (pg55 : Nat) (pg56 : Nat) (pg57 : Nat) (pg58 : Nat) (pg59 : Nat) (pg60 : Nat) (pg61 : Nat) (pg62 : Nat) (pg63 : Nat) (pg64 : Nat) (pg65 : Nat) (pg66 : Nat) (pf67 : Nat → Int32) (px68 : Int32) (px69 : Int32) (px70 : Int32) (px71 : Int32) (px72 : Int32) : uMi l yX12_feed cX12_feed 8 (some .int) { frames := 0, cells := 0, slots := 0, locals := 0 } [.ref ph0, .int px68, .int px69, .int px70, .int px71, .int px72] D K [(ph0, .inr (12, [.int 0, .int 4, .int 4, .ref pg2, .ref pg3, .ref pg4, .ref pg5, .int 0, .ref pg6, .ref pg7, .int 0, .ref pg8, .ref pg9, .ref pg10, .ref pg11, .ref pg12, .ref pg13, .ref pg14, .int 0, .ref pg15, .ref pg16, .ref pg17, .ref pg18, .ref pg19, .ref pg20, .int 0, .ref pg21, .int 0, .int 0, .int 0, .ref pg22, .int 0, .int 0, .ref ph1, .int 0, .ref pg23, .ref pg24, .ref pg25, .ref pg26, .ref pg27, .ref pg28, .ref pg29, .ref pg30, .ref pg31, .ref pg32, .ref pg33, .ref pg34, .ref pg35, .ref pg36, .ref pg37, .ref pg38, .ref pg39, .ref pg40, .ref pg41, .ref pg42, .ref pg43, .ref pg44, .ref pg45, .int 0, .int 0, .int 0, .int 0, .int 0, .long 0, .int 0, .int 0, .int 0, .int 0, .int 0, .int (-1), .int 0, .ref pg46, .ref pg47, .ref pg48, .ref pg49, .ref pg50, .int 0, .int 0, .ref pg51, .ref pg52, .ref pg53, .ref pg54, .ref pg55, .ref pg56, .ref pg57, .ref pg58, .int 0, .int 0, .int 0, .int 0, .ref pg59, .ref pg60, .int 0, .ref pg61, .ref pg62, .ref pg63, .ref pg64, .ref pg65, .ref pg66])), (ph1, .inl (K 0, 1000, .inl pf67))] sz (qkX12_feed_135 ph0 ph1 pg2 pg3 pg4 pg5 pg6 pg7 pg8 pg9 pg10 pg11 pg12 pg13 pg14 pg15 pg16 pg17 pg18 pg19 pg20 pg21 pg22 pg23 pg24 pg25 pg26 pg27 pg28 pg29 pg30 pg31 pg32 pg33 pg34 pg35 pg36 pg37 pg38 pg39 pg40 pg41 pg42 pg43 pg44 pg45 pg46 pg47 pg48 pg49 pg50 pg51 pg52 pg53 pg54 pg55 pg56 pg57 pg58 pg59 pg60 pg61 pg62 pg63 pg64 pg65 pg66 pf67 px68 px69 px70 px71 px72) (vkX12_feed_135 K ph0 ph1 pg2 pg3 pg4 pg5 pg6 pg7 pg8 pg9 pg10 pg11 pg12 pg13 pg14 pg15 pg16 pg17 pg18 pg19 pg20 pg21 pg22 pg23 pg24 pg25 pg26 pg27 pg28 pg29 pg30 pg31 pg32 pg33 pg34 pg35 pg36 pg37 pg38 pg39 pg40 pg41 pg42 pg43 pg44 pg45 pg46 pg47 pg48 pg49 pg50 pg51 pg52 pg53 pg54 pg55 pg56 pg57 pg58 pg59 pg60 pg61 pg62 pg63 pg64 pg65 pg66 pf67 px68 px69 px70 px71 px72) := by
  refine uMet (Qc := uQi D (qkX12_feed_135 ph0 ph1 pg2 pg3 pg4 pg5 pg6 pg7 pg8 pg9 pg10 pg11 pg12 pg13 pg14 pg15 pg16 pg17 pg18 pg19 pg20 pg21 pg22 pg23 pg24 pg25 pg26 pg27 pg28 pg29 pg30 pg31 pg32 pg33 pg34 pg35 pg36 pg37 pg38 pg39 pg40 pg41 pg42 pg43 pg44 pg45 pg46 pg47 pg48 pg49 pg50 pg51 pg52 pg53 pg54 pg55 pg56 pg57 pg58 pg59 pg60 pg61 pg62 pg63 pg64 pg65 pg66 pf67 px68 px69 px70 px71 px72) (vkX12_feed_135 K ph0 ph1 pg2 pg3 pg4 pg5 pg6 pg7 pg8 pg9 pg10 pg11 pg12 pg13 pg14 pg15 pg16 pg17 pg18 pg19 pg20 pg21 pg22 pg23 pg24 pg25 pg26 pg27 pg28 pg29 pg30 pg31 pg32 pg33 pg34 pg35 pg36 pg37 pg38 pg39 pg40 pg41 pg42 pg43 pg44 pg45 pg46 pg47 pg48 pg49 pg50 pg51 pg52 pg53 pg54 pg55 pg56 pg57 pg58 pg59 pg60 pg61 pg62 pg63 pg64 pg65 pg66 pf67 px68 px69 px70 px71 px72)) (ret := (some .int)) (by decide) (Nat.le_of_ble_eq_true rfl) ?_
  intro p e s m below meth c A ls hAe hsz B hP hD hS hl
  have hx := B.1
  have hb := B.2.1
  have hl : lv_has ls 8 [(0, .ref ph0), (1, .int px68), (2, .int px69), (3, .int px70), (4, .int px71), (5, .int px72)] := hl
  refine lv_aload_n hx hb dX12_feed_0 rfl (lv_at hl 0 rfl) ?_
  refine lv_iconst (v := 0) hx hb dX12_feed_1 (by decide) ?_
  refine uPut (ci := 12) (C := RX12) (T := TX12) (N := 99) (ws' := [(ph0, .inr (12, [.int 0, .int 4, .int 4, .ref pg2, .ref pg3, .ref pg4, .ref pg5, .int 0, .ref pg6, .ref pg7, .int 0, .ref pg8, .ref pg9, .ref pg10, .ref pg11, .ref pg12, .ref pg13, .ref pg14, .int 0, .ref pg15, .ref pg16, .ref pg17, .ref pg18, .ref pg19, .ref pg20, .int 0, .ref pg21, .int 0, .int 0, .int 0, .ref pg22, .int 0, .int 0, .ref ph1, .int 0, .ref pg23, .ref pg24, .ref pg25, .ref pg26, .ref pg27, .ref pg28, .ref pg29, .ref pg30, .ref pg31, .ref pg32, .ref pg33, .ref pg34, .ref pg35, .ref pg36, .ref pg37, .ref pg38, .ref pg39, .ref pg40, .ref pg41, .ref pg42, .ref pg43, .ref pg44, .ref pg45, .int 0, .int 0, .int 0, .int 0, .int 0, .long 0, .int 0, .int 0, .int 0, .int 0, .int 0, .int (-1), .int 0, .ref pg46, .ref pg47, .ref pg48, .ref pg49, .ref pg50, .int 0, .int 0, .ref pg51, .ref pg52, .ref pg53, .ref pg54, .ref pg55, .ref pg56, .ref pg57, .ref pg58, .int 0, .int 0, .int 0, .int 0, .ref pg59, .ref pg60, .int 0, .ref pg61, .ref pg62, .ref pg63, .ref pg64, .ref pg65, .ref pg66])), (ph1, .inl (K 0, 1000, .inl pf67))]) B inlX12 tyX12_ok nmX12 hP hD hS 0 rfl rfl 0 rfl mfl_X12_224 rfl rfl rfl rfl rfl rfl dX12_feed_2 (fun H locs hP hD hS => ?_)
  refine lv_aload_n hx hb dX12_feed_5 rfl (lv_at hl 0 rfl) ?_
  refine uGet (ci := 12) (C := RX12) (T := TX12) (N := 99) (v := .int 0) B inlX12 hP 0 rfl rfl 34 rfl mfl_X12_378 rfl rfl dX12_feed_6 ?_
  refine lv_pc (q := 9) rfl ?_
  refine lv_sipush (v := 980) hx hb dX12_feed_9 (by decide) ?_
  refine lv_icmp_le (tgt := 17) hx hb dX12_feed_12 (by decide) (fun _ => ?_) (fun h9 => absurd (by decide) h9)
  refine lv_iconst (v := 0) hx hb dX12_feed_17 (by decide) ?_
  refine lv_istore (lv' := [(6, .int 0), (0, .ref ph0), (1, .int px68), (2, .int px69), (3, .int px70), (4, .int px71), (5, .int px72)]) hx hb dX12_feed_18 hl (by decide) rfl (fun ls hl => ?_)
  refine lv_iload hx hb dX12_feed_20 (lv_at hl 0 rfl) ?_
  refine lv_bipush (v := 20) hx hb dX12_feed_22 (by decide) ?_
  refine lv_pc (q := 24) rfl ?_
  refine lv_icmp_ge (tgt := 110) hx hb dX12_feed_24 (by decide) (fun h9 => absurd h9 (by decide)) (fun _ => ?_)
  refine lv_iload hx hb dX12_feed_27 (lv_at hl 0 rfl) ?_
  refine lv_iconst (v := 4) hx hb dX12_feed_29 (by decide) ?_
  refine lv_icmp_ge (tgt := 37) hx hb dX12_feed_30 (by decide) (fun h9 => absurd h9 (by decide)) (fun _ => ?_)
  refine lv_iload_n hx hb dX12_feed_33 rfl (lv_at hl 2 rfl) ?_
  refine lv_goto (tgt := 73) hx hb dX12_feed_34 (by decide) ?_
  refine lv_pc (q := 73) rfl ?_
  refine lv_istore (lv' := [(7, .int px68), (6, .int 0), (0, .ref ph0), (1, .int px68), (2, .int px69), (3, .int px70), (4, .int px71), (5, .int px72)]) hx hb dX12_feed_73 hl (by decide) rfl (fun ls hl => ?_)
  refine lv_aload_n hx hb dX12_feed_75 rfl (lv_at hl 2 rfl) ?_
  refine uGet (ci := 12) (C := RX12) (T := TX12) (N := 99) (v := .ref ph1) B inlX12 hP 0 rfl rfl 33 rfl mfl_X12_81 rfl rfl dX12_feed_76 ?_
  refine lv_aload_n hx hb dX12_feed_79 rfl (lv_at hl 2 rfl) ?_
  refine uGet (ci := 12) (C := RX12) (T := TX12) (N := 99) (v := .int 0) B inlX12 hP 0 rfl rfl 34 rfl mfl_X12_378 rfl rfl dX12_feed_80 ?_
  refine lv_iload hx hb dX12_feed_83 (lv_at hl 1 rfl) ?_
  refine lv_pc (q := 85) rfl ?_
  refine lv_iadd hx hb dX12_feed_85 ?_
  refine lv_fixi (y := 0) (by decide) ?_
  refine lv_iload hx hb dX12_feed_86 (lv_at hl 0 rfl) ?_
  refine lv_bipush (v := 24) hx hb dX12_feed_88 (by decide) ?_
  refine lv_bipush (v := 8) hx hb dX12_feed_90 (by decide) ?_
  refine lv_iload hx hb dX12_feed_92 (lv_at hl 1 rfl) ?_
  refine lv_iconst (v := 4) hx hb dX12_feed_94 (by decide) ?_
  refine lv_pc (q := 95) rfl ?_
  refine lv_irem hx hb dX12_feed_95 (by decide) ?_
  refine lv_fixi (y := 0) (by decide) ?_
  refine lv_imul hx hb dX12_feed_96 ?_
  refine lv_fixi (y := 0) (by decide) ?_
  refine lv_isub hx hb dX12_feed_97 ?_
  refine lv_fixi (y := 24) (by decide) ?_
  refine lv_ishr hx hb dX12_feed_98 ?_
  refine lv_sipush (v := 255) hx hb dX12_feed_99 (by decide) ?_
  refine lv_iand hx hb dX12_feed_102 ?_
  refine lv_pc (q := 103) rfl ?_
  refine uIast (i := 0) (j := 0) (ws' := [(ph0, .inr (12, [.int 0, .int 4, .int 4, .ref pg2, .ref pg3, .ref pg4, .ref pg5, .int 0, .ref pg6, .ref pg7, .int 0, .ref pg8, .ref pg9, .ref pg10, .ref pg11, .ref pg12, .ref pg13, .ref pg14, .int 0, .ref pg15, .ref pg16, .ref pg17, .ref pg18, .ref pg19, .ref pg20, .int 0, .ref pg21, .int 0, .int 0, .int 0, .ref pg22, .int 0, .int 0, .ref ph1, .int 0, .ref pg23, .ref pg24, .ref pg25, .ref pg26, .ref pg27, .ref pg28, .ref pg29, .ref pg30, .ref pg31, .ref pg32, .ref pg33, .ref pg34, .ref pg35, .ref pg36, .ref pg37, .ref pg38, .ref pg39, .ref pg40, .ref pg41, .ref pg42, .ref pg43, .ref pg44, .ref pg45, .int 0, .int 0, .int 0, .int 0, .int 0, .long 0, .int 0, .int 0, .int 0, .int 0, .int 0, .int (-1), .int 0, .ref pg46, .ref pg47, .ref pg48, .ref pg49, .ref pg50, .int 0, .int 0, .ref pg51, .ref pg52, .ref pg53, .ref pg54, .ref pg55, .ref pg56, .ref pg57, .ref pg58, .int 0, .int 0, .int 0, .int 0, .ref pg59, .ref pg60, .int 0, .ref pg61, .ref pg62, .ref pg63, .ref pg64, .ref pg65, .ref pg66])), (ph1, .inl (K 0, 1000, .inl (upd pf67 0 ((px68 >>> (24 &&& 31)) &&& 255))))]) B hP hD hS 1 rfl (by decide) rfl rfl dX12_feed_103 (fun H locs hP hD hS => ?_)
  refine lv_iinc (v := 1) (lv' := [(6, .int 1), (7, .int px68), (0, .ref ph0), (1, .int px68), (2, .int px69), (3, .int px70), (4, .int px71), (5, .int px72)]) hx hb dX12_feed_104 hl (k := 1) rfl (by decide) (by decide) rfl (fun ls hl => ?_)
  refine lv_goto (tgt := 20) hx hb dX12_feed_107 (by decide) ?_
  refine lv_iload hx hb dX12_feed_20 (lv_at hl 0 rfl) ?_
  refine lv_bipush (v := 20) hx hb dX12_feed_22 (by decide) ?_
  refine lv_icmp_ge (tgt := 110) hx hb dX12_feed_24 (by decide) (fun h9 => absurd h9 (by decide)) (fun _ => ?_)
  refine lv_pc (q := 27) rfl ?_
  refine lv_iload hx hb dX12_feed_27 (lv_at hl 0 rfl) ?_
  refine lv_iconst (v := 4) hx hb dX12_feed_29 (by decide) ?_
  refine lv_icmp_ge (tgt := 37) hx hb dX12_feed_30 (by decide) (fun h9 => absurd h9 (by decide)) (fun _ => ?_)
  refine lv_iload_n hx hb dX12_feed_33 rfl (lv_at hl 3 rfl) ?_
  refine lv_goto (tgt := 73) hx hb dX12_feed_34 (by decide) ?_
  refine lv_istore (lv' := [(7, .int px68), (6, .int 1), (0, .ref ph0), (1, .int px68), (2, .int px69), (3, .int px70), (4, .int px71), (5, .int px72)]) hx hb dX12_feed_73 hl (by decide) rfl (fun ls hl => ?_)
  refine lv_pc (q := 75) rfl ?_
  refine lv_aload_n hx hb dX12_feed_75 rfl (lv_at hl 2 rfl) ?_
  refine uGet (ci := 12) (C := RX12) (T := TX12) (N := 99) (v := .ref ph1) B inlX12 hP 0 rfl rfl 33 rfl mfl_X12_81 rfl rfl dX12_feed_76 ?_
  refine lv_aload_n hx hb dX12_feed_79 rfl (lv_at hl 2 rfl) ?_
  refine uGet (ci := 12) (C := RX12) (T := TX12) (N := 99) (v := .int 0) B inlX12 hP 0 rfl rfl 34 rfl mfl_X12_378 rfl rfl dX12_feed_80 ?_
  refine lv_iload hx hb dX12_feed_83 (lv_at hl 1 rfl) ?_
  refine lv_iadd hx hb dX12_feed_85 ?_
  refine lv_fixi (y := 1) (by decide) ?_
  refine lv_pc (q := 86) rfl ?_
  refine lv_iload hx hb dX12_feed_86 (lv_at hl 0 rfl) ?_
  refine lv_bipush (v := 24) hx hb dX12_feed_88 (by decide) ?_
  refine lv_bipush (v := 8) hx hb dX12_feed_90 (by decide) ?_
  refine lv_iload hx hb dX12_feed_92 (lv_at hl 1 rfl) ?_
  refine lv_iconst (v := 4) hx hb dX12_feed_94 (by decide) ?_
  refine lv_irem hx hb dX12_feed_95 (by decide) ?_
  refine lv_fixi (y := 1) (by decide) ?_
  refine lv_pc (q := 96) rfl ?_
  refine lv_imul hx hb dX12_feed_96 ?_
  refine lv_fixi (y := 8) (by decide) ?_
  refine lv_isub hx hb dX12_feed_97 ?_
  refine lv_fixi (y := 16) (by decide) ?_
  refine lv_ishr hx hb dX12_feed_98 ?_
  refine lv_sipush (v := 255) hx hb dX12_feed_99 (by decide) ?_
  refine lv_iand hx hb dX12_feed_102 ?_
  refine uIast (i := 1) (j := 1) (ws' := [(ph0, .inr (12, [.int 0, .int 4, .int 4, .ref pg2, .ref pg3, .ref pg4, .ref pg5, .int 0, .ref pg6, .ref pg7, .int 0, .ref pg8, .ref pg9, .ref pg10, .ref pg11, .ref pg12, .ref pg13, .ref pg14, .int 0, .ref pg15, .ref pg16, .ref pg17, .ref pg18, .ref pg19, .ref pg20, .int 0, .ref pg21, .int 0, .int 0, .int 0, .ref pg22, .int 0, .int 0, .ref ph1, .int 0, .ref pg23, .ref pg24, .ref pg25, .ref pg26, .ref pg27, .ref pg28, .ref pg29, .ref pg30, .ref pg31, .ref pg32, .ref pg33, .ref pg34, .ref pg35, .ref pg36, .ref pg37, .ref pg38, .ref pg39, .ref pg40, .ref pg41, .ref pg42, .ref pg43, .ref pg44, .ref pg45, .int 0, .int 0, .int 0, .int 0, .int 0, .long 0, .int 0, .int 0, .int 0, .int 0, .int 0, .int (-1), .int 0, .ref pg46, .ref pg47, .ref pg48, .ref pg49, .ref pg50, .int 0, .int 0, .ref pg51, .ref pg52, .ref pg53, .ref pg54, .ref pg55, .ref pg56, .ref pg57, .ref pg58, .int 0, .int 0, .int 0, .int 0, .ref pg59, .ref pg60, .int 0, .ref pg61, .ref pg62, .ref pg63, .ref pg64, .ref pg65, .ref pg66])), (ph1, .inl (K 0, 1000, .inl (upd (upd pf67 0 ((px68 >>> (24 &&& 31)) &&& 255)) 1 ((px68 >>> (16 &&& 31)) &&& 255))))]) B hP hD hS 1 rfl (by decide) rfl rfl dX12_feed_103 (fun H locs hP hD hS => ?_)
  refine lv_pc (q := 104) rfl ?_
  refine lv_iinc (v := 2) (lv' := [(6, .int 2), (7, .int px68), (0, .ref ph0), (1, .int px68), (2, .int px69), (3, .int px70), (4, .int px71), (5, .int px72)]) hx hb dX12_feed_104 hl (k := 1) rfl (by decide) (by decide) rfl (fun ls hl => ?_)
  refine lv_goto (tgt := 20) hx hb dX12_feed_107 (by decide) ?_
  refine lv_iload hx hb dX12_feed_20 (lv_at hl 0 rfl) ?_
  refine lv_bipush (v := 20) hx hb dX12_feed_22 (by decide) ?_
  refine lv_icmp_ge (tgt := 110) hx hb dX12_feed_24 (by decide) (fun h9 => absurd h9 (by decide)) (fun _ => ?_)
  refine lv_iload hx hb dX12_feed_27 (lv_at hl 0 rfl) ?_
  refine lv_pc (q := 29) rfl ?_
  refine lv_iconst (v := 4) hx hb dX12_feed_29 (by decide) ?_
  refine lv_icmp_ge (tgt := 37) hx hb dX12_feed_30 (by decide) (fun h9 => absurd h9 (by decide)) (fun _ => ?_)
  refine lv_iload_n hx hb dX12_feed_33 rfl (lv_at hl 3 rfl) ?_
  refine lv_goto (tgt := 73) hx hb dX12_feed_34 (by decide) ?_
  refine lv_istore (lv' := [(7, .int px68), (6, .int 2), (0, .ref ph0), (1, .int px68), (2, .int px69), (3, .int px70), (4, .int px71), (5, .int px72)]) hx hb dX12_feed_73 hl (by decide) rfl (fun ls hl => ?_)
  refine lv_aload_n hx hb dX12_feed_75 rfl (lv_at hl 2 rfl) ?_
  refine lv_pc (q := 76) rfl ?_
  refine uGet (ci := 12) (C := RX12) (T := TX12) (N := 99) (v := .ref ph1) B inlX12 hP 0 rfl rfl 33 rfl mfl_X12_81 rfl rfl dX12_feed_76 ?_
  refine lv_aload_n hx hb dX12_feed_79 rfl (lv_at hl 2 rfl) ?_
  refine uGet (ci := 12) (C := RX12) (T := TX12) (N := 99) (v := .int 0) B inlX12 hP 0 rfl rfl 34 rfl mfl_X12_378 rfl rfl dX12_feed_80 ?_
  refine lv_iload hx hb dX12_feed_83 (lv_at hl 1 rfl) ?_
  refine lv_iadd hx hb dX12_feed_85 ?_
  refine lv_fixi (y := 2) (by decide) ?_
  refine lv_iload hx hb dX12_feed_86 (lv_at hl 0 rfl) ?_
  refine lv_pc (q := 88) rfl ?_
  refine lv_bipush (v := 24) hx hb dX12_feed_88 (by decide) ?_
  refine lv_bipush (v := 8) hx hb dX12_feed_90 (by decide) ?_
  refine lv_iload hx hb dX12_feed_92 (lv_at hl 1 rfl) ?_
  refine lv_iconst (v := 4) hx hb dX12_feed_94 (by decide) ?_
  refine lv_irem hx hb dX12_feed_95 (by decide) ?_
  refine lv_fixi (y := 2) (by decide) ?_
  refine lv_imul hx hb dX12_feed_96 ?_
  refine lv_fixi (y := 16) (by decide) ?_
  refine lv_pc (q := 97) rfl ?_
  refine lv_isub hx hb dX12_feed_97 ?_
  refine lv_fixi (y := 8) (by decide) ?_
  refine lv_ishr hx hb dX12_feed_98 ?_
  refine lv_sipush (v := 255) hx hb dX12_feed_99 (by decide) ?_
  refine lv_iand hx hb dX12_feed_102 ?_
  refine uIast (i := 2) (j := 2) (ws' := [(ph0, .inr (12, [.int 0, .int 4, .int 4, .ref pg2, .ref pg3, .ref pg4, .ref pg5, .int 0, .ref pg6, .ref pg7, .int 0, .ref pg8, .ref pg9, .ref pg10, .ref pg11, .ref pg12, .ref pg13, .ref pg14, .int 0, .ref pg15, .ref pg16, .ref pg17, .ref pg18, .ref pg19, .ref pg20, .int 0, .ref pg21, .int 0, .int 0, .int 0, .ref pg22, .int 0, .int 0, .ref ph1, .int 0, .ref pg23, .ref pg24, .ref pg25, .ref pg26, .ref pg27, .ref pg28, .ref pg29, .ref pg30, .ref pg31, .ref pg32, .ref pg33, .ref pg34, .ref pg35, .ref pg36, .ref pg37, .ref pg38, .ref pg39, .ref pg40, .ref pg41, .ref pg42, .ref pg43, .ref pg44, .ref pg45, .int 0, .int 0, .int 0, .int 0, .int 0, .long 0, .int 0, .int 0, .int 0, .int 0, .int 0, .int (-1), .int 0, .ref pg46, .ref pg47, .ref pg48, .ref pg49, .ref pg50, .int 0, .int 0, .ref pg51, .ref pg52, .ref pg53, .ref pg54, .ref pg55, .ref pg56, .ref pg57, .ref pg58, .int 0, .int 0, .int 0, .int 0, .ref pg59, .ref pg60, .int 0, .ref pg61, .ref pg62, .ref pg63, .ref pg64, .ref pg65, .ref pg66])), (ph1, .inl (K 0, 1000, .inl (upd (upd (upd pf67 0 ((px68 >>> (24 &&& 31)) &&& 255)) 1 ((px68 >>> (16 &&& 31)) &&& 255)) 2 ((px68 >>> (8 &&& 31)) &&& 255))))]) B hP hD hS 1 rfl (by decide) rfl rfl dX12_feed_103 (fun H locs hP hD hS => ?_)
  obtain ⟨f1, ef1⟩ : ∃ y : Nat → Int32, y = upd (upd (upd pf67 0 ((px68 >>> (24 &&& 31)) &&& 255)) 1 ((px68 >>> (16 &&& 31)) &&& 255)) 2 ((px68 >>> (8 &&& 31)) &&& 255) := ⟨_, rfl⟩
  rw [← ef1] at hP hD
  clear ef1
  refine lv_iinc (v := 3) (lv' := [(6, .int 3), (7, .int px68), (0, .ref ph0), (1, .int px68), (2, .int px69), (3, .int px70), (4, .int px71), (5, .int px72)]) hx hb dX12_feed_104 hl (k := 1) rfl (by decide) (by decide) rfl (fun ls hl => ?_)
  refine lv_pc (q := 107) rfl ?_
  refine lv_goto (tgt := 20) hx hb dX12_feed_107 (by decide) ?_
  refine lv_iload hx hb dX12_feed_20 (lv_at hl 0 rfl) ?_
  refine lv_bipush (v := 20) hx hb dX12_feed_22 (by decide) ?_
  refine lv_icmp_ge (tgt := 110) hx hb dX12_feed_24 (by decide) (fun h9 => absurd h9 (by decide)) (fun _ => ?_)
  refine lv_iload hx hb dX12_feed_27 (lv_at hl 0 rfl) ?_
  refine lv_iconst (v := 4) hx hb dX12_feed_29 (by decide) ?_
  refine lv_pc (q := 30) rfl ?_
  refine lv_icmp_ge (tgt := 37) hx hb dX12_feed_30 (by decide) (fun h9 => absurd h9 (by decide)) (fun _ => ?_)
  refine lv_iload_n hx hb dX12_feed_33 rfl (lv_at hl 3 rfl) ?_
  refine lv_goto (tgt := 73) hx hb dX12_feed_34 (by decide) ?_
  refine lv_istore (lv' := [(7, .int px68), (6, .int 3), (0, .ref ph0), (1, .int px68), (2, .int px69), (3, .int px70), (4, .int px71), (5, .int px72)]) hx hb dX12_feed_73 hl (by decide) rfl (fun ls hl => ?_)
  refine lv_aload_n hx hb dX12_feed_75 rfl (lv_at hl 2 rfl) ?_
  refine uGet (ci := 12) (C := RX12) (T := TX12) (N := 99) (v := .ref ph1) B inlX12 hP 0 rfl rfl 33 rfl mfl_X12_81 rfl rfl dX12_feed_76 ?_
  refine lv_pc (q := 79) rfl ?_
  refine lv_aload_n hx hb dX12_feed_79 rfl (lv_at hl 2 rfl) ?_
  refine uGet (ci := 12) (C := RX12) (T := TX12) (N := 99) (v := .int 0) B inlX12 hP 0 rfl rfl 34 rfl mfl_X12_378 rfl rfl dX12_feed_80 ?_
  refine lv_iload hx hb dX12_feed_83 (lv_at hl 1 rfl) ?_
  refine lv_iadd hx hb dX12_feed_85 ?_
  refine lv_fixi (y := 3) (by decide) ?_
  refine lv_iload hx hb dX12_feed_86 (lv_at hl 0 rfl) ?_
  refine lv_bipush (v := 24) hx hb dX12_feed_88 (by decide) ?_
  refine lv_pc (q := 90) rfl ?_
  refine lv_bipush (v := 8) hx hb dX12_feed_90 (by decide) ?_
  refine lv_iload hx hb dX12_feed_92 (lv_at hl 1 rfl) ?_
  refine lv_iconst (v := 4) hx hb dX12_feed_94 (by decide) ?_
  refine lv_irem hx hb dX12_feed_95 (by decide) ?_
  refine lv_fixi (y := 3) (by decide) ?_
  refine lv_imul hx hb dX12_feed_96 ?_
  refine lv_fixi (y := 24) (by decide) ?_
  refine lv_isub hx hb dX12_feed_97 ?_
  refine lv_fixi (y := 0) (by decide) ?_
  refine lv_pc (q := 98) rfl ?_
  refine lv_ishr hx hb dX12_feed_98 ?_
  refine lv_sipush (v := 255) hx hb dX12_feed_99 (by decide) ?_
  refine lv_iand hx hb dX12_feed_102 ?_
  refine uIast (i := 3) (j := 3) (ws' := [(ph0, .inr (12, [.int 0, .int 4, .int 4, .ref pg2, .ref pg3, .ref pg4, .ref pg5, .int 0, .ref pg6, .ref pg7, .int 0, .ref pg8, .ref pg9, .ref pg10, .ref pg11, .ref pg12, .ref pg13, .ref pg14, .int 0, .ref pg15, .ref pg16, .ref pg17, .ref pg18, .ref pg19, .ref pg20, .int 0, .ref pg21, .int 0, .int 0, .int 0, .ref pg22, .int 0, .int 0, .ref ph1, .int 0, .ref pg23, .ref pg24, .ref pg25, .ref pg26, .ref pg27, .ref pg28, .ref pg29, .ref pg30, .ref pg31, .ref pg32, .ref pg33, .ref pg34, .ref pg35, .ref pg36, .ref pg37, .ref pg38, .ref pg39, .ref pg40, .ref pg41, .ref pg42, .ref pg43, .ref pg44, .ref pg45, .int 0, .int 0, .int 0, .int 0, .int 0, .long 0, .int 0, .int 0, .int 0, .int 0, .int 0, .int (-1), .int 0, .ref pg46, .ref pg47, .ref pg48, .ref pg49, .ref pg50, .int 0, .int 0, .ref pg51, .ref pg52, .ref pg53, .ref pg54, .ref pg55, .ref pg56, .ref pg57, .ref pg58, .int 0, .int 0, .int 0, .int 0, .ref pg59, .ref pg60, .int 0, .ref pg61, .ref pg62, .ref pg63, .ref pg64, .ref pg65, .ref pg66])), (ph1, .inl (K 0, 1000, .inl (upd f1 3 ((px68 >>> (0 &&& 31)) &&& 255))))]) B hP hD hS 1 rfl (by decide) rfl rfl dX12_feed_103 (fun H locs hP hD hS => ?_)
  refine lv_iinc (v := 4) (lv' := [(6, .int 4), (7, .int px68), (0, .ref ph0), (1, .int px68), (2, .int px69), (3, .int px70), (4, .int px71), (5, .int px72)]) hx hb dX12_feed_104 hl (k := 1) rfl (by decide) (by decide) rfl (fun ls hl => ?_)
  refine lv_goto (tgt := 20) hx hb dX12_feed_107 (by decide) ?_
  refine lv_pc (q := 20) rfl ?_
  refine lv_iload hx hb dX12_feed_20 (lv_at hl 0 rfl) ?_
  refine lv_bipush (v := 20) hx hb dX12_feed_22 (by decide) ?_
  refine lv_icmp_ge (tgt := 110) hx hb dX12_feed_24 (by decide) (fun h9 => absurd h9 (by decide)) (fun _ => ?_)
  refine lv_iload hx hb dX12_feed_27 (lv_at hl 0 rfl) ?_
  refine lv_iconst (v := 4) hx hb dX12_feed_29 (by decide) ?_
  refine lv_icmp_ge (tgt := 37) hx hb dX12_feed_30 (by decide) (fun _ => ?_) (fun h9 => absurd (by decide) h9)
  refine lv_pc (q := 37) rfl ?_
  refine lv_iload hx hb dX12_feed_37 (lv_at hl 0 rfl) ?_
  refine lv_bipush (v := 8) hx hb dX12_feed_39 (by decide) ?_
  refine lv_icmp_ge (tgt := 48) hx hb dX12_feed_41 (by decide) (fun h9 => absurd h9 (by decide)) (fun _ => ?_)
  refine lv_iload_n hx hb dX12_feed_44 rfl (lv_at hl 4 rfl) ?_
  refine lv_goto (tgt := 73) hx hb dX12_feed_45 (by decide) ?_
  refine lv_istore (lv' := [(7, .int px69), (6, .int 4), (0, .ref ph0), (1, .int px68), (2, .int px69), (3, .int px70), (4, .int px71), (5, .int px72)]) hx hb dX12_feed_73 hl (by decide) rfl (fun ls hl => ?_)
  refine lv_pc (q := 75) rfl ?_
  refine lv_aload_n hx hb dX12_feed_75 rfl (lv_at hl 2 rfl) ?_
  refine uGet (ci := 12) (C := RX12) (T := TX12) (N := 99) (v := .ref ph1) B inlX12 hP 0 rfl rfl 33 rfl mfl_X12_81 rfl rfl dX12_feed_76 ?_
  refine lv_aload_n hx hb dX12_feed_79 rfl (lv_at hl 2 rfl) ?_
  refine uGet (ci := 12) (C := RX12) (T := TX12) (N := 99) (v := .int 0) B inlX12 hP 0 rfl rfl 34 rfl mfl_X12_378 rfl rfl dX12_feed_80 ?_
  refine lv_iload hx hb dX12_feed_83 (lv_at hl 1 rfl) ?_
  refine lv_iadd hx hb dX12_feed_85 ?_
  refine lv_fixi (y := 4) (by decide) ?_
  refine lv_pc (q := 86) rfl ?_
  refine lv_iload hx hb dX12_feed_86 (lv_at hl 0 rfl) ?_
  refine lv_bipush (v := 24) hx hb dX12_feed_88 (by decide) ?_
  refine lv_bipush (v := 8) hx hb dX12_feed_90 (by decide) ?_
  refine lv_iload hx hb dX12_feed_92 (lv_at hl 1 rfl) ?_
  refine lv_iconst (v := 4) hx hb dX12_feed_94 (by decide) ?_
  refine lv_irem hx hb dX12_feed_95 (by decide) ?_
  refine lv_fixi (y := 0) (by decide) ?_
  refine lv_pc (q := 96) rfl ?_
  refine lv_imul hx hb dX12_feed_96 ?_
  refine lv_fixi (y := 0) (by decide) ?_
  refine lv_isub hx hb dX12_feed_97 ?_
  refine lv_fixi (y := 24) (by decide) ?_
  refine lv_ishr hx hb dX12_feed_98 ?_
  refine lv_sipush (v := 255) hx hb dX12_feed_99 (by decide) ?_
  refine lv_iand hx hb dX12_feed_102 ?_
  refine uIast (i := 4) (j := 4) (ws' := [(ph0, .inr (12, [.int 0, .int 4, .int 4, .ref pg2, .ref pg3, .ref pg4, .ref pg5, .int 0, .ref pg6, .ref pg7, .int 0, .ref pg8, .ref pg9, .ref pg10, .ref pg11, .ref pg12, .ref pg13, .ref pg14, .int 0, .ref pg15, .ref pg16, .ref pg17, .ref pg18, .ref pg19, .ref pg20, .int 0, .ref pg21, .int 0, .int 0, .int 0, .ref pg22, .int 0, .int 0, .ref ph1, .int 0, .ref pg23, .ref pg24, .ref pg25, .ref pg26, .ref pg27, .ref pg28, .ref pg29, .ref pg30, .ref pg31, .ref pg32, .ref pg33, .ref pg34, .ref pg35, .ref pg36, .ref pg37, .ref pg38, .ref pg39, .ref pg40, .ref pg41, .ref pg42, .ref pg43, .ref pg44, .ref pg45, .int 0, .int 0, .int 0, .int 0, .int 0, .long 0, .int 0, .int 0, .int 0, .int 0, .int 0, .int (-1), .int 0, .ref pg46, .ref pg47, .ref pg48, .ref pg49, .ref pg50, .int 0, .int 0, .ref pg51, .ref pg52, .ref pg53, .ref pg54, .ref pg55, .ref pg56, .ref pg57, .ref pg58, .int 0, .int 0, .int 0, .int 0, .ref pg59, .ref pg60, .int 0, .ref pg61, .ref pg62, .ref pg63, .ref pg64, .ref pg65, .ref pg66])), (ph1, .inl (K 0, 1000, .inl (upd (upd f1 3 ((px68 >>> (0 &&& 31)) &&& 255)) 4 ((px69 >>> (24 &&& 31)) &&& 255))))]) B hP hD hS 1 rfl (by decide) rfl rfl dX12_feed_103 (fun H locs hP hD hS => ?_)
  refine lv_pc (q := 104) rfl ?_
  refine lv_iinc (v := 5) (lv' := [(6, .int 5), (7, .int px69), (0, .ref ph0), (1, .int px68), (2, .int px69), (3, .int px70), (4, .int px71), (5, .int px72)]) hx hb dX12_feed_104 hl (k := 1) rfl (by decide) (by decide) rfl (fun ls hl => ?_)
  refine lv_goto (tgt := 20) hx hb dX12_feed_107 (by decide) ?_
  refine lv_iload hx hb dX12_feed_20 (lv_at hl 0 rfl) ?_
  refine lv_bipush (v := 20) hx hb dX12_feed_22 (by decide) ?_
  refine lv_icmp_ge (tgt := 110) hx hb dX12_feed_24 (by decide) (fun h9 => absurd h9 (by decide)) (fun _ => ?_)
  refine lv_iload hx hb dX12_feed_27 (lv_at hl 0 rfl) ?_
  refine lv_pc (q := 29) rfl ?_
  refine lv_iconst (v := 4) hx hb dX12_feed_29 (by decide) ?_
  refine lv_icmp_ge (tgt := 37) hx hb dX12_feed_30 (by decide) (fun _ => ?_) (fun h9 => absurd (by decide) h9)
  refine lv_iload hx hb dX12_feed_37 (lv_at hl 0 rfl) ?_
  refine lv_bipush (v := 8) hx hb dX12_feed_39 (by decide) ?_
  refine lv_icmp_ge (tgt := 48) hx hb dX12_feed_41 (by decide) (fun h9 => absurd h9 (by decide)) (fun _ => ?_)
  refine lv_iload_n hx hb dX12_feed_44 rfl (lv_at hl 4 rfl) ?_
  refine lv_pc (q := 45) rfl ?_
  refine lv_goto (tgt := 73) hx hb dX12_feed_45 (by decide) ?_
  refine lv_istore (lv' := [(7, .int px69), (6, .int 5), (0, .ref ph0), (1, .int px68), (2, .int px69), (3, .int px70), (4, .int px71), (5, .int px72)]) hx hb dX12_feed_73 hl (by decide) rfl (fun ls hl => ?_)
  refine lv_aload_n hx hb dX12_feed_75 rfl (lv_at hl 2 rfl) ?_
  refine uGet (ci := 12) (C := RX12) (T := TX12) (N := 99) (v := .ref ph1) B inlX12 hP 0 rfl rfl 33 rfl mfl_X12_81 rfl rfl dX12_feed_76 ?_
  refine lv_aload_n hx hb dX12_feed_79 rfl (lv_at hl 2 rfl) ?_
  refine uGet (ci := 12) (C := RX12) (T := TX12) (N := 99) (v := .int 0) B inlX12 hP 0 rfl rfl 34 rfl mfl_X12_378 rfl rfl dX12_feed_80 ?_
  refine lv_pc (q := 83) rfl ?_
  refine lv_iload hx hb dX12_feed_83 (lv_at hl 1 rfl) ?_
  refine lv_iadd hx hb dX12_feed_85 ?_
  refine lv_fixi (y := 5) (by decide) ?_
  refine lv_iload hx hb dX12_feed_86 (lv_at hl 0 rfl) ?_
  refine lv_bipush (v := 24) hx hb dX12_feed_88 (by decide) ?_
  refine lv_bipush (v := 8) hx hb dX12_feed_90 (by decide) ?_
  refine lv_iload hx hb dX12_feed_92 (lv_at hl 1 rfl) ?_
  refine lv_pc (q := 94) rfl ?_
  refine lv_iconst (v := 4) hx hb dX12_feed_94 (by decide) ?_
  refine lv_irem hx hb dX12_feed_95 (by decide) ?_
  refine lv_fixi (y := 1) (by decide) ?_
  refine lv_imul hx hb dX12_feed_96 ?_
  refine lv_fixi (y := 8) (by decide) ?_
  refine lv_isub hx hb dX12_feed_97 ?_
  refine lv_fixi (y := 16) (by decide) ?_
  refine lv_ishr hx hb dX12_feed_98 ?_
  refine lv_sipush (v := 255) hx hb dX12_feed_99 (by decide) ?_
  refine lv_pc (q := 102) rfl ?_
  refine lv_iand hx hb dX12_feed_102 ?_
  refine uIast (i := 5) (j := 5) (ws' := [(ph0, .inr (12, [.int 0, .int 4, .int 4, .ref pg2, .ref pg3, .ref pg4, .ref pg5, .int 0, .ref pg6, .ref pg7, .int 0, .ref pg8, .ref pg9, .ref pg10, .ref pg11, .ref pg12, .ref pg13, .ref pg14, .int 0, .ref pg15, .ref pg16, .ref pg17, .ref pg18, .ref pg19, .ref pg20, .int 0, .ref pg21, .int 0, .int 0, .int 0, .ref pg22, .int 0, .int 0, .ref ph1, .int 0, .ref pg23, .ref pg24, .ref pg25, .ref pg26, .ref pg27, .ref pg28, .ref pg29, .ref pg30, .ref pg31, .ref pg32, .ref pg33, .ref pg34, .ref pg35, .ref pg36, .ref pg37, .ref pg38, .ref pg39, .ref pg40, .ref pg41, .ref pg42, .ref pg43, .ref pg44, .ref pg45, .int 0, .int 0, .int 0, .int 0, .int 0, .long 0, .int 0, .int 0, .int 0, .int 0, .int 0, .int (-1), .int 0, .ref pg46, .ref pg47, .ref pg48, .ref pg49, .ref pg50, .int 0, .int 0, .ref pg51, .ref pg52, .ref pg53, .ref pg54, .ref pg55, .ref pg56, .ref pg57, .ref pg58, .int 0, .int 0, .int 0, .int 0, .ref pg59, .ref pg60, .int 0, .ref pg61, .ref pg62, .ref pg63, .ref pg64, .ref pg65, .ref pg66])), (ph1, .inl (K 0, 1000, .inl (upd (upd (upd f1 3 ((px68 >>> (0 &&& 31)) &&& 255)) 4 ((px69 >>> (24 &&& 31)) &&& 255)) 5 ((px69 >>> (16 &&& 31)) &&& 255))))]) B hP hD hS 1 rfl (by decide) rfl rfl dX12_feed_103 (fun H locs hP hD hS => ?_)
  obtain ⟨f2, ef2⟩ : ∃ y : Nat → Int32, y = upd (upd (upd f1 3 ((px68 >>> (0 &&& 31)) &&& 255)) 4 ((px69 >>> (24 &&& 31)) &&& 255)) 5 ((px69 >>> (16 &&& 31)) &&& 255) := ⟨_, rfl⟩
  rw [← ef2] at hP hD
  clear ef2
  refine lv_iinc (v := 6) (lv' := [(6, .int 6), (7, .int px69), (0, .ref ph0), (1, .int px68), (2, .int px69), (3, .int px70), (4, .int px71), (5, .int px72)]) hx hb dX12_feed_104 hl (k := 1) rfl (by decide) (by decide) rfl (fun ls hl => ?_)
  refine lv_goto (tgt := 20) hx hb dX12_feed_107 (by decide) ?_
  refine lv_iload hx hb dX12_feed_20 (lv_at hl 0 rfl) ?_
  refine lv_bipush (v := 20) hx hb dX12_feed_22 (by decide) ?_
  refine lv_pc (q := 24) rfl ?_
  refine lv_icmp_ge (tgt := 110) hx hb dX12_feed_24 (by decide) (fun h9 => absurd h9 (by decide)) (fun _ => ?_)
  refine lv_iload hx hb dX12_feed_27 (lv_at hl 0 rfl) ?_
  refine lv_iconst (v := 4) hx hb dX12_feed_29 (by decide) ?_
  refine lv_icmp_ge (tgt := 37) hx hb dX12_feed_30 (by decide) (fun _ => ?_) (fun h9 => absurd (by decide) h9)
  refine lv_iload hx hb dX12_feed_37 (lv_at hl 0 rfl) ?_
  refine lv_bipush (v := 8) hx hb dX12_feed_39 (by decide) ?_
  refine lv_pc (q := 41) rfl ?_
  refine lv_icmp_ge (tgt := 48) hx hb dX12_feed_41 (by decide) (fun h9 => absurd h9 (by decide)) (fun _ => ?_)
  refine lv_iload_n hx hb dX12_feed_44 rfl (lv_at hl 4 rfl) ?_
  refine lv_goto (tgt := 73) hx hb dX12_feed_45 (by decide) ?_
  refine lv_istore (lv' := [(7, .int px69), (6, .int 6), (0, .ref ph0), (1, .int px68), (2, .int px69), (3, .int px70), (4, .int px71), (5, .int px72)]) hx hb dX12_feed_73 hl (by decide) rfl (fun ls hl => ?_)
  refine lv_aload_n hx hb dX12_feed_75 rfl (lv_at hl 2 rfl) ?_
  refine uGet (ci := 12) (C := RX12) (T := TX12) (N := 99) (v := .ref ph1) B inlX12 hP 0 rfl rfl 33 rfl mfl_X12_81 rfl rfl dX12_feed_76 ?_
  refine lv_pc (q := 79) rfl ?_
  refine lv_aload_n hx hb dX12_feed_79 rfl (lv_at hl 2 rfl) ?_
  refine uGet (ci := 12) (C := RX12) (T := TX12) (N := 99) (v := .int 0) B inlX12 hP 0 rfl rfl 34 rfl mfl_X12_378 rfl rfl dX12_feed_80 ?_
  refine lv_iload hx hb dX12_feed_83 (lv_at hl 1 rfl) ?_
  refine lv_iadd hx hb dX12_feed_85 ?_
  refine lv_fixi (y := 6) (by decide) ?_
  refine lv_iload hx hb dX12_feed_86 (lv_at hl 0 rfl) ?_
  refine lv_bipush (v := 24) hx hb dX12_feed_88 (by decide) ?_
  refine lv_pc (q := 90) rfl ?_
  refine lv_bipush (v := 8) hx hb dX12_feed_90 (by decide) ?_
  refine lv_iload hx hb dX12_feed_92 (lv_at hl 1 rfl) ?_
  refine lv_iconst (v := 4) hx hb dX12_feed_94 (by decide) ?_
  refine lv_irem hx hb dX12_feed_95 (by decide) ?_
  refine lv_fixi (y := 2) (by decide) ?_
  refine lv_imul hx hb dX12_feed_96 ?_
  refine lv_fixi (y := 16) (by decide) ?_
  refine lv_isub hx hb dX12_feed_97 ?_
  refine lv_fixi (y := 8) (by decide) ?_
  refine lv_pc (q := 98) rfl ?_
  refine lv_ishr hx hb dX12_feed_98 ?_
  refine lv_sipush (v := 255) hx hb dX12_feed_99 (by decide) ?_
  refine lv_iand hx hb dX12_feed_102 ?_
  refine uIast (i := 6) (j := 6) (ws' := [(ph0, .inr (12, [.int 0, .int 4, .int 4, .ref pg2, .ref pg3, .ref pg4, .ref pg5, .int 0, .ref pg6, .ref pg7, .int 0, .ref pg8, .ref pg9, .ref pg10, .ref pg11, .ref pg12, .ref pg13, .ref pg14, .int 0, .ref pg15, .ref pg16, .ref pg17, .ref pg18, .ref pg19, .ref pg20, .int 0, .ref pg21, .int 0, .int 0, .int 0, .ref pg22, .int 0, .int 0, .ref ph1, .int 0, .ref pg23, .ref pg24, .ref pg25, .ref pg26, .ref pg27, .ref pg28, .ref pg29, .ref pg30, .ref pg31, .ref pg32, .ref pg33, .ref pg34, .ref pg35, .ref pg36, .ref pg37, .ref pg38, .ref pg39, .ref pg40, .ref pg41, .ref pg42, .ref pg43, .ref pg44, .ref pg45, .int 0, .int 0, .int 0, .int 0, .int 0, .long 0, .int 0, .int 0, .int 0, .int 0, .int 0, .int (-1), .int 0, .ref pg46, .ref pg47, .ref pg48, .ref pg49, .ref pg50, .int 0, .int 0, .ref pg51, .ref pg52, .ref pg53, .ref pg54, .ref pg55, .ref pg56, .ref pg57, .ref pg58, .int 0, .int 0, .int 0, .int 0, .ref pg59, .ref pg60, .int 0, .ref pg61, .ref pg62, .ref pg63, .ref pg64, .ref pg65, .ref pg66])), (ph1, .inl (K 0, 1000, .inl (upd f2 6 ((px69 >>> (8 &&& 31)) &&& 255))))]) B hP hD hS 1 rfl (by decide) rfl rfl dX12_feed_103 (fun H locs hP hD hS => ?_)
  refine lv_iinc (v := 7) (lv' := [(6, .int 7), (7, .int px69), (0, .ref ph0), (1, .int px68), (2, .int px69), (3, .int px70), (4, .int px71), (5, .int px72)]) hx hb dX12_feed_104 hl (k := 1) rfl (by decide) (by decide) rfl (fun ls hl => ?_)
  refine lv_goto (tgt := 20) hx hb dX12_feed_107 (by decide) ?_
  refine lv_pc (q := 20) rfl ?_
  refine lv_iload hx hb dX12_feed_20 (lv_at hl 0 rfl) ?_
  refine lv_bipush (v := 20) hx hb dX12_feed_22 (by decide) ?_
  refine lv_icmp_ge (tgt := 110) hx hb dX12_feed_24 (by decide) (fun h9 => absurd h9 (by decide)) (fun _ => ?_)
  refine lv_iload hx hb dX12_feed_27 (lv_at hl 0 rfl) ?_
  refine lv_iconst (v := 4) hx hb dX12_feed_29 (by decide) ?_
  refine lv_icmp_ge (tgt := 37) hx hb dX12_feed_30 (by decide) (fun _ => ?_) (fun h9 => absurd (by decide) h9)
  refine lv_pc (q := 37) rfl ?_
  refine lv_iload hx hb dX12_feed_37 (lv_at hl 0 rfl) ?_
  refine lv_bipush (v := 8) hx hb dX12_feed_39 (by decide) ?_
  refine lv_icmp_ge (tgt := 48) hx hb dX12_feed_41 (by decide) (fun h9 => absurd h9 (by decide)) (fun _ => ?_)
  refine lv_iload_n hx hb dX12_feed_44 rfl (lv_at hl 4 rfl) ?_
  refine lv_goto (tgt := 73) hx hb dX12_feed_45 (by decide) ?_
  refine lv_istore (lv' := [(7, .int px69), (6, .int 7), (0, .ref ph0), (1, .int px68), (2, .int px69), (3, .int px70), (4, .int px71), (5, .int px72)]) hx hb dX12_feed_73 hl (by decide) rfl (fun ls hl => ?_)
  refine lv_pc (q := 75) rfl ?_
  refine lv_aload_n hx hb dX12_feed_75 rfl (lv_at hl 2 rfl) ?_
  refine uGet (ci := 12) (C := RX12) (T := TX12) (N := 99) (v := .ref ph1) B inlX12 hP 0 rfl rfl 33 rfl mfl_X12_81 rfl rfl dX12_feed_76 ?_
  refine lv_aload_n hx hb dX12_feed_79 rfl (lv_at hl 2 rfl) ?_
  refine uGet (ci := 12) (C := RX12) (T := TX12) (N := 99) (v := .int 0) B inlX12 hP 0 rfl rfl 34 rfl mfl_X12_378 rfl rfl dX12_feed_80 ?_
  refine lv_iload hx hb dX12_feed_83 (lv_at hl 1 rfl) ?_
  refine lv_iadd hx hb dX12_feed_85 ?_
  refine lv_fixi (y := 7) (by decide) ?_
  refine lv_pc (q := 86) rfl ?_
  refine lv_iload hx hb dX12_feed_86 (lv_at hl 0 rfl) ?_
  refine lv_bipush (v := 24) hx hb dX12_feed_88 (by decide) ?_
  refine lv_bipush (v := 8) hx hb dX12_feed_90 (by decide) ?_
  refine lv_iload hx hb dX12_feed_92 (lv_at hl 1 rfl) ?_
  refine lv_iconst (v := 4) hx hb dX12_feed_94 (by decide) ?_
  refine lv_irem hx hb dX12_feed_95 (by decide) ?_
  refine lv_fixi (y := 3) (by decide) ?_
  refine lv_pc (q := 96) rfl ?_
  refine lv_imul hx hb dX12_feed_96 ?_
  refine lv_fixi (y := 24) (by decide) ?_
  refine lv_isub hx hb dX12_feed_97 ?_
  refine lv_fixi (y := 0) (by decide) ?_
  refine lv_ishr hx hb dX12_feed_98 ?_
  refine lv_sipush (v := 255) hx hb dX12_feed_99 (by decide) ?_
  refine lv_iand hx hb dX12_feed_102 ?_
  refine uIast (i := 7) (j := 7) (ws' := [(ph0, .inr (12, [.int 0, .int 4, .int 4, .ref pg2, .ref pg3, .ref pg4, .ref pg5, .int 0, .ref pg6, .ref pg7, .int 0, .ref pg8, .ref pg9, .ref pg10, .ref pg11, .ref pg12, .ref pg13, .ref pg14, .int 0, .ref pg15, .ref pg16, .ref pg17, .ref pg18, .ref pg19, .ref pg20, .int 0, .ref pg21, .int 0, .int 0, .int 0, .ref pg22, .int 0, .int 0, .ref ph1, .int 0, .ref pg23, .ref pg24, .ref pg25, .ref pg26, .ref pg27, .ref pg28, .ref pg29, .ref pg30, .ref pg31, .ref pg32, .ref pg33, .ref pg34, .ref pg35, .ref pg36, .ref pg37, .ref pg38, .ref pg39, .ref pg40, .ref pg41, .ref pg42, .ref pg43, .ref pg44, .ref pg45, .int 0, .int 0, .int 0, .int 0, .int 0, .long 0, .int 0, .int 0, .int 0, .int 0, .int 0, .int (-1), .int 0, .ref pg46, .ref pg47, .ref pg48, .ref pg49, .ref pg50, .int 0, .int 0, .ref pg51, .ref pg52, .ref pg53, .ref pg54, .ref pg55, .ref pg56, .ref pg57, .ref pg58, .int 0, .int 0, .int 0, .int 0, .ref pg59, .ref pg60, .int 0, .ref pg61, .ref pg62, .ref pg63, .ref pg64, .ref pg65, .ref pg66])), (ph1, .inl (K 0, 1000, .inl (upd (upd f2 6 ((px69 >>> (8 &&& 31)) &&& 255)) 7 ((px69 >>> (0 &&& 31)) &&& 255))))]) B hP hD hS 1 rfl (by decide) rfl rfl dX12_feed_103 (fun H locs hP hD hS => ?_)
  refine lv_pc (q := 104) rfl ?_
  refine lv_iinc (v := 8) (lv' := [(6, .int 8), (7, .int px69), (0, .ref ph0), (1, .int px68), (2, .int px69), (3, .int px70), (4, .int px71), (5, .int px72)]) hx hb dX12_feed_104 hl (k := 1) rfl (by decide) (by decide) rfl (fun ls hl => ?_)
  refine lv_goto (tgt := 20) hx hb dX12_feed_107 (by decide) ?_
  refine lv_iload hx hb dX12_feed_20 (lv_at hl 0 rfl) ?_
  refine lv_bipush (v := 20) hx hb dX12_feed_22 (by decide) ?_
  refine lv_icmp_ge (tgt := 110) hx hb dX12_feed_24 (by decide) (fun h9 => absurd h9 (by decide)) (fun _ => ?_)
  refine lv_iload hx hb dX12_feed_27 (lv_at hl 0 rfl) ?_
  refine lv_pc (q := 29) rfl ?_
  refine lv_iconst (v := 4) hx hb dX12_feed_29 (by decide) ?_
  refine lv_icmp_ge (tgt := 37) hx hb dX12_feed_30 (by decide) (fun _ => ?_) (fun h9 => absurd (by decide) h9)
  refine lv_iload hx hb dX12_feed_37 (lv_at hl 0 rfl) ?_
  refine lv_bipush (v := 8) hx hb dX12_feed_39 (by decide) ?_
  refine lv_icmp_ge (tgt := 48) hx hb dX12_feed_41 (by decide) (fun _ => ?_) (fun h9 => absurd (by decide) h9)
  refine lv_iload hx hb dX12_feed_48 (lv_at hl 0 rfl) ?_
  refine lv_pc (q := 50) rfl ?_
  refine lv_bipush (v := 12) hx hb dX12_feed_50 (by decide) ?_
  refine lv_icmp_ge (tgt := 59) hx hb dX12_feed_52 (by decide) (fun h9 => absurd h9 (by decide)) (fun _ => ?_)
  refine lv_iload_n hx hb dX12_feed_55 rfl (lv_at hl 5 rfl) ?_
  refine lv_goto (tgt := 73) hx hb dX12_feed_56 (by decide) ?_
  refine lv_istore (lv' := [(7, .int px70), (6, .int 8), (0, .ref ph0), (1, .int px68), (2, .int px69), (3, .int px70), (4, .int px71), (5, .int px72)]) hx hb dX12_feed_73 hl (by decide) rfl (fun ls hl => ?_)
  refine lv_aload_n hx hb dX12_feed_75 rfl (lv_at hl 2 rfl) ?_
  refine lv_pc (q := 76) rfl ?_
  refine uGet (ci := 12) (C := RX12) (T := TX12) (N := 99) (v := .ref ph1) B inlX12 hP 0 rfl rfl 33 rfl mfl_X12_81 rfl rfl dX12_feed_76 ?_
  refine lv_aload_n hx hb dX12_feed_79 rfl (lv_at hl 2 rfl) ?_
  refine uGet (ci := 12) (C := RX12) (T := TX12) (N := 99) (v := .int 0) B inlX12 hP 0 rfl rfl 34 rfl mfl_X12_378 rfl rfl dX12_feed_80 ?_
  refine lv_iload hx hb dX12_feed_83 (lv_at hl 1 rfl) ?_
  refine lv_iadd hx hb dX12_feed_85 ?_
  refine lv_fixi (y := 8) (by decide) ?_
  refine lv_iload hx hb dX12_feed_86 (lv_at hl 0 rfl) ?_
  refine lv_pc (q := 88) rfl ?_
  refine lv_bipush (v := 24) hx hb dX12_feed_88 (by decide) ?_
  refine lv_bipush (v := 8) hx hb dX12_feed_90 (by decide) ?_
  refine lv_iload hx hb dX12_feed_92 (lv_at hl 1 rfl) ?_
  refine lv_iconst (v := 4) hx hb dX12_feed_94 (by decide) ?_
  refine lv_irem hx hb dX12_feed_95 (by decide) ?_
  refine lv_fixi (y := 0) (by decide) ?_
  refine lv_imul hx hb dX12_feed_96 ?_
  refine lv_fixi (y := 0) (by decide) ?_
  refine lv_pc (q := 97) rfl ?_
  refine lv_isub hx hb dX12_feed_97 ?_
  refine lv_fixi (y := 24) (by decide) ?_
  refine lv_ishr hx hb dX12_feed_98 ?_
  refine lv_sipush (v := 255) hx hb dX12_feed_99 (by decide) ?_
  refine lv_iand hx hb dX12_feed_102 ?_
  refine uIast (i := 8) (j := 8) (ws' := [(ph0, .inr (12, [.int 0, .int 4, .int 4, .ref pg2, .ref pg3, .ref pg4, .ref pg5, .int 0, .ref pg6, .ref pg7, .int 0, .ref pg8, .ref pg9, .ref pg10, .ref pg11, .ref pg12, .ref pg13, .ref pg14, .int 0, .ref pg15, .ref pg16, .ref pg17, .ref pg18, .ref pg19, .ref pg20, .int 0, .ref pg21, .int 0, .int 0, .int 0, .ref pg22, .int 0, .int 0, .ref ph1, .int 0, .ref pg23, .ref pg24, .ref pg25, .ref pg26, .ref pg27, .ref pg28, .ref pg29, .ref pg30, .ref pg31, .ref pg32, .ref pg33, .ref pg34, .ref pg35, .ref pg36, .ref pg37, .ref pg38, .ref pg39, .ref pg40, .ref pg41, .ref pg42, .ref pg43, .ref pg44, .ref pg45, .int 0, .int 0, .int 0, .int 0, .int 0, .long 0, .int 0, .int 0, .int 0, .int 0, .int 0, .int (-1), .int 0, .ref pg46, .ref pg47, .ref pg48, .ref pg49, .ref pg50, .int 0, .int 0, .ref pg51, .ref pg52, .ref pg53, .ref pg54, .ref pg55, .ref pg56, .ref pg57, .ref pg58, .int 0, .int 0, .int 0, .int 0, .ref pg59, .ref pg60, .int 0, .ref pg61, .ref pg62, .ref pg63, .ref pg64, .ref pg65, .ref pg66])), (ph1, .inl (K 0, 1000, .inl (upd (upd (upd f2 6 ((px69 >>> (8 &&& 31)) &&& 255)) 7 ((px69 >>> (0 &&& 31)) &&& 255)) 8 ((px70 >>> (24 &&& 31)) &&& 255))))]) B hP hD hS 1 rfl (by decide) rfl rfl dX12_feed_103 (fun H locs hP hD hS => ?_)
  obtain ⟨f3, ef3⟩ : ∃ y : Nat → Int32, y = upd (upd (upd f2 6 ((px69 >>> (8 &&& 31)) &&& 255)) 7 ((px69 >>> (0 &&& 31)) &&& 255)) 8 ((px70 >>> (24 &&& 31)) &&& 255) := ⟨_, rfl⟩
  rw [← ef3] at hP hD
  clear ef3
  refine lv_iinc (v := 9) (lv' := [(6, .int 9), (7, .int px70), (0, .ref ph0), (1, .int px68), (2, .int px69), (3, .int px70), (4, .int px71), (5, .int px72)]) hx hb dX12_feed_104 hl (k := 1) rfl (by decide) (by decide) rfl (fun ls hl => ?_)
  refine lv_pc (q := 107) rfl ?_
  refine lv_goto (tgt := 20) hx hb dX12_feed_107 (by decide) ?_
  refine lv_iload hx hb dX12_feed_20 (lv_at hl 0 rfl) ?_
  refine lv_bipush (v := 20) hx hb dX12_feed_22 (by decide) ?_
  refine lv_icmp_ge (tgt := 110) hx hb dX12_feed_24 (by decide) (fun h9 => absurd h9 (by decide)) (fun _ => ?_)
  refine lv_iload hx hb dX12_feed_27 (lv_at hl 0 rfl) ?_
  refine lv_iconst (v := 4) hx hb dX12_feed_29 (by decide) ?_
  refine lv_pc (q := 30) rfl ?_
  refine lv_icmp_ge (tgt := 37) hx hb dX12_feed_30 (by decide) (fun _ => ?_) (fun h9 => absurd (by decide) h9)
  refine lv_iload hx hb dX12_feed_37 (lv_at hl 0 rfl) ?_
  refine lv_bipush (v := 8) hx hb dX12_feed_39 (by decide) ?_
  refine lv_icmp_ge (tgt := 48) hx hb dX12_feed_41 (by decide) (fun _ => ?_) (fun h9 => absurd (by decide) h9)
  refine lv_iload hx hb dX12_feed_48 (lv_at hl 0 rfl) ?_
  refine lv_bipush (v := 12) hx hb dX12_feed_50 (by decide) ?_
  refine lv_pc (q := 52) rfl ?_
  refine lv_icmp_ge (tgt := 59) hx hb dX12_feed_52 (by decide) (fun h9 => absurd h9 (by decide)) (fun _ => ?_)
  refine lv_iload_n hx hb dX12_feed_55 rfl (lv_at hl 5 rfl) ?_
  refine lv_goto (tgt := 73) hx hb dX12_feed_56 (by decide) ?_
  refine lv_istore (lv' := [(7, .int px70), (6, .int 9), (0, .ref ph0), (1, .int px68), (2, .int px69), (3, .int px70), (4, .int px71), (5, .int px72)]) hx hb dX12_feed_73 hl (by decide) rfl (fun ls hl => ?_)
  refine lv_aload_n hx hb dX12_feed_75 rfl (lv_at hl 2 rfl) ?_
  refine uGet (ci := 12) (C := RX12) (T := TX12) (N := 99) (v := .ref ph1) B inlX12 hP 0 rfl rfl 33 rfl mfl_X12_81 rfl rfl dX12_feed_76 ?_
  refine lv_pc (q := 79) rfl ?_
  refine lv_aload_n hx hb dX12_feed_79 rfl (lv_at hl 2 rfl) ?_
  refine uGet (ci := 12) (C := RX12) (T := TX12) (N := 99) (v := .int 0) B inlX12 hP 0 rfl rfl 34 rfl mfl_X12_378 rfl rfl dX12_feed_80 ?_
  refine lv_iload hx hb dX12_feed_83 (lv_at hl 1 rfl) ?_
  refine lv_iadd hx hb dX12_feed_85 ?_
  refine lv_fixi (y := 9) (by decide) ?_
  refine lv_iload hx hb dX12_feed_86 (lv_at hl 0 rfl) ?_
  refine lv_bipush (v := 24) hx hb dX12_feed_88 (by decide) ?_
  refine lv_pc (q := 90) rfl ?_
  refine lv_bipush (v := 8) hx hb dX12_feed_90 (by decide) ?_
  refine lv_iload hx hb dX12_feed_92 (lv_at hl 1 rfl) ?_
  refine lv_iconst (v := 4) hx hb dX12_feed_94 (by decide) ?_
  refine lv_irem hx hb dX12_feed_95 (by decide) ?_
  refine lv_fixi (y := 1) (by decide) ?_
  refine lv_imul hx hb dX12_feed_96 ?_
  refine lv_fixi (y := 8) (by decide) ?_
  refine lv_isub hx hb dX12_feed_97 ?_
  refine lv_fixi (y := 16) (by decide) ?_
  refine lv_pc (q := 98) rfl ?_
  refine lv_ishr hx hb dX12_feed_98 ?_
  refine lv_sipush (v := 255) hx hb dX12_feed_99 (by decide) ?_
  refine lv_iand hx hb dX12_feed_102 ?_
  refine uIast (i := 9) (j := 9) (ws' := [(ph0, .inr (12, [.int 0, .int 4, .int 4, .ref pg2, .ref pg3, .ref pg4, .ref pg5, .int 0, .ref pg6, .ref pg7, .int 0, .ref pg8, .ref pg9, .ref pg10, .ref pg11, .ref pg12, .ref pg13, .ref pg14, .int 0, .ref pg15, .ref pg16, .ref pg17, .ref pg18, .ref pg19, .ref pg20, .int 0, .ref pg21, .int 0, .int 0, .int 0, .ref pg22, .int 0, .int 0, .ref ph1, .int 0, .ref pg23, .ref pg24, .ref pg25, .ref pg26, .ref pg27, .ref pg28, .ref pg29, .ref pg30, .ref pg31, .ref pg32, .ref pg33, .ref pg34, .ref pg35, .ref pg36, .ref pg37, .ref pg38, .ref pg39, .ref pg40, .ref pg41, .ref pg42, .ref pg43, .ref pg44, .ref pg45, .int 0, .int 0, .int 0, .int 0, .int 0, .long 0, .int 0, .int 0, .int 0, .int 0, .int 0, .int (-1), .int 0, .ref pg46, .ref pg47, .ref pg48, .ref pg49, .ref pg50, .int 0, .int 0, .ref pg51, .ref pg52, .ref pg53, .ref pg54, .ref pg55, .ref pg56, .ref pg57, .ref pg58, .int 0, .int 0, .int 0, .int 0, .ref pg59, .ref pg60, .int 0, .ref pg61, .ref pg62, .ref pg63, .ref pg64, .ref pg65, .ref pg66])), (ph1, .inl (K 0, 1000, .inl (upd f3 9 ((px70 >>> (16 &&& 31)) &&& 255))))]) B hP hD hS 1 rfl (by decide) rfl rfl dX12_feed_103 (fun H locs hP hD hS => ?_)
  refine lv_iinc (v := 10) (lv' := [(6, .int 10), (7, .int px70), (0, .ref ph0), (1, .int px68), (2, .int px69), (3, .int px70), (4, .int px71), (5, .int px72)]) hx hb dX12_feed_104 hl (k := 1) rfl (by decide) (by decide) rfl (fun ls hl => ?_)
  refine lv_goto (tgt := 20) hx hb dX12_feed_107 (by decide) ?_
  refine lv_pc (q := 20) rfl ?_
  refine lv_iload hx hb dX12_feed_20 (lv_at hl 0 rfl) ?_
  refine lv_bipush (v := 20) hx hb dX12_feed_22 (by decide) ?_
  refine lv_icmp_ge (tgt := 110) hx hb dX12_feed_24 (by decide) (fun h9 => absurd h9 (by decide)) (fun _ => ?_)
  refine lv_iload hx hb dX12_feed_27 (lv_at hl 0 rfl) ?_
  refine lv_iconst (v := 4) hx hb dX12_feed_29 (by decide) ?_
  refine lv_icmp_ge (tgt := 37) hx hb dX12_feed_30 (by decide) (fun _ => ?_) (fun h9 => absurd (by decide) h9)
  refine lv_pc (q := 37) rfl ?_
  refine lv_iload hx hb dX12_feed_37 (lv_at hl 0 rfl) ?_
  refine lv_bipush (v := 8) hx hb dX12_feed_39 (by decide) ?_
  refine lv_icmp_ge (tgt := 48) hx hb dX12_feed_41 (by decide) (fun _ => ?_) (fun h9 => absurd (by decide) h9)
  refine lv_iload hx hb dX12_feed_48 (lv_at hl 0 rfl) ?_
  refine lv_bipush (v := 12) hx hb dX12_feed_50 (by decide) ?_
  refine lv_icmp_ge (tgt := 59) hx hb dX12_feed_52 (by decide) (fun h9 => absurd h9 (by decide)) (fun _ => ?_)
  refine lv_pc (q := 55) rfl ?_
  refine lv_iload_n hx hb dX12_feed_55 rfl (lv_at hl 5 rfl) ?_
  refine lv_goto (tgt := 73) hx hb dX12_feed_56 (by decide) ?_
  refine lv_istore (lv' := [(7, .int px70), (6, .int 10), (0, .ref ph0), (1, .int px68), (2, .int px69), (3, .int px70), (4, .int px71), (5, .int px72)]) hx hb dX12_feed_73 hl (by decide) rfl (fun ls hl => ?_)
  refine lv_aload_n hx hb dX12_feed_75 rfl (lv_at hl 2 rfl) ?_
  refine uGet (ci := 12) (C := RX12) (T := TX12) (N := 99) (v := .ref ph1) B inlX12 hP 0 rfl rfl 33 rfl mfl_X12_81 rfl rfl dX12_feed_76 ?_
  refine lv_aload_n hx hb dX12_feed_79 rfl (lv_at hl 2 rfl) ?_
  refine lv_pc (q := 80) rfl ?_
  refine uGet (ci := 12) (C := RX12) (T := TX12) (N := 99) (v := .int 0) B inlX12 hP 0 rfl rfl 34 rfl mfl_X12_378 rfl rfl dX12_feed_80 ?_
  refine lv_iload hx hb dX12_feed_83 (lv_at hl 1 rfl) ?_
  refine lv_iadd hx hb dX12_feed_85 ?_
  refine lv_fixi (y := 10) (by decide) ?_
  refine lv_iload hx hb dX12_feed_86 (lv_at hl 0 rfl) ?_
  refine lv_bipush (v := 24) hx hb dX12_feed_88 (by decide) ?_
  refine lv_bipush (v := 8) hx hb dX12_feed_90 (by decide) ?_
  refine lv_pc (q := 92) rfl ?_
  refine lv_iload hx hb dX12_feed_92 (lv_at hl 1 rfl) ?_
  refine lv_iconst (v := 4) hx hb dX12_feed_94 (by decide) ?_
  refine lv_irem hx hb dX12_feed_95 (by decide) ?_
  refine lv_fixi (y := 2) (by decide) ?_
  refine lv_imul hx hb dX12_feed_96 ?_
  refine lv_fixi (y := 16) (by decide) ?_
  refine lv_isub hx hb dX12_feed_97 ?_
  refine lv_fixi (y := 8) (by decide) ?_
  refine lv_ishr hx hb dX12_feed_98 ?_
  refine lv_pc (q := 99) rfl ?_
  refine lv_sipush (v := 255) hx hb dX12_feed_99 (by decide) ?_
  refine lv_iand hx hb dX12_feed_102 ?_
  refine uIast (i := 10) (j := 10) (ws' := [(ph0, .inr (12, [.int 0, .int 4, .int 4, .ref pg2, .ref pg3, .ref pg4, .ref pg5, .int 0, .ref pg6, .ref pg7, .int 0, .ref pg8, .ref pg9, .ref pg10, .ref pg11, .ref pg12, .ref pg13, .ref pg14, .int 0, .ref pg15, .ref pg16, .ref pg17, .ref pg18, .ref pg19, .ref pg20, .int 0, .ref pg21, .int 0, .int 0, .int 0, .ref pg22, .int 0, .int 0, .ref ph1, .int 0, .ref pg23, .ref pg24, .ref pg25, .ref pg26, .ref pg27, .ref pg28, .ref pg29, .ref pg30, .ref pg31, .ref pg32, .ref pg33, .ref pg34, .ref pg35, .ref pg36, .ref pg37, .ref pg38, .ref pg39, .ref pg40, .ref pg41, .ref pg42, .ref pg43, .ref pg44, .ref pg45, .int 0, .int 0, .int 0, .int 0, .int 0, .long 0, .int 0, .int 0, .int 0, .int 0, .int 0, .int (-1), .int 0, .ref pg46, .ref pg47, .ref pg48, .ref pg49, .ref pg50, .int 0, .int 0, .ref pg51, .ref pg52, .ref pg53, .ref pg54, .ref pg55, .ref pg56, .ref pg57, .ref pg58, .int 0, .int 0, .int 0, .int 0, .ref pg59, .ref pg60, .int 0, .ref pg61, .ref pg62, .ref pg63, .ref pg64, .ref pg65, .ref pg66])), (ph1, .inl (K 0, 1000, .inl (upd (upd f3 9 ((px70 >>> (16 &&& 31)) &&& 255)) 10 ((px70 >>> (8 &&& 31)) &&& 255))))]) B hP hD hS 1 rfl (by decide) rfl rfl dX12_feed_103 (fun H locs hP hD hS => ?_)
  refine lv_iinc (v := 11) (lv' := [(6, .int 11), (7, .int px70), (0, .ref ph0), (1, .int px68), (2, .int px69), (3, .int px70), (4, .int px71), (5, .int px72)]) hx hb dX12_feed_104 hl (k := 1) rfl (by decide) (by decide) rfl (fun ls hl => ?_)
  refine lv_goto (tgt := 20) hx hb dX12_feed_107 (by decide) ?_
  refine lv_iload hx hb dX12_feed_20 (lv_at hl 0 rfl) ?_
  refine lv_pc (q := 22) rfl ?_
  refine lv_bipush (v := 20) hx hb dX12_feed_22 (by decide) ?_
  refine lv_icmp_ge (tgt := 110) hx hb dX12_feed_24 (by decide) (fun h9 => absurd h9 (by decide)) (fun _ => ?_)
  refine lv_iload hx hb dX12_feed_27 (lv_at hl 0 rfl) ?_
  refine lv_iconst (v := 4) hx hb dX12_feed_29 (by decide) ?_
  refine lv_icmp_ge (tgt := 37) hx hb dX12_feed_30 (by decide) (fun _ => ?_) (fun h9 => absurd (by decide) h9)
  refine lv_iload hx hb dX12_feed_37 (lv_at hl 0 rfl) ?_
  refine lv_pc (q := 39) rfl ?_
  refine lv_bipush (v := 8) hx hb dX12_feed_39 (by decide) ?_
  refine lv_icmp_ge (tgt := 48) hx hb dX12_feed_41 (by decide) (fun _ => ?_) (fun h9 => absurd (by decide) h9)
  refine lv_iload hx hb dX12_feed_48 (lv_at hl 0 rfl) ?_
  refine lv_bipush (v := 12) hx hb dX12_feed_50 (by decide) ?_
  refine lv_icmp_ge (tgt := 59) hx hb dX12_feed_52 (by decide) (fun h9 => absurd h9 (by decide)) (fun _ => ?_)
  refine lv_iload_n hx hb dX12_feed_55 rfl (lv_at hl 5 rfl) ?_
  refine lv_pc (q := 56) rfl ?_
  refine lv_goto (tgt := 73) hx hb dX12_feed_56 (by decide) ?_
  refine lv_istore (lv' := [(7, .int px70), (6, .int 11), (0, .ref ph0), (1, .int px68), (2, .int px69), (3, .int px70), (4, .int px71), (5, .int px72)]) hx hb dX12_feed_73 hl (by decide) rfl (fun ls hl => ?_)
  refine lv_aload_n hx hb dX12_feed_75 rfl (lv_at hl 2 rfl) ?_
  refine uGet (ci := 12) (C := RX12) (T := TX12) (N := 99) (v := .ref ph1) B inlX12 hP 0 rfl rfl 33 rfl mfl_X12_81 rfl rfl dX12_feed_76 ?_
  refine lv_aload_n hx hb dX12_feed_79 rfl (lv_at hl 2 rfl) ?_
  refine uGet (ci := 12) (C := RX12) (T := TX12) (N := 99) (v := .int 0) B inlX12 hP 0 rfl rfl 34 rfl mfl_X12_378 rfl rfl dX12_feed_80 ?_
  refine lv_pc (q := 83) rfl ?_
  refine lv_iload hx hb dX12_feed_83 (lv_at hl 1 rfl) ?_
  refine lv_iadd hx hb dX12_feed_85 ?_
  refine lv_fixi (y := 11) (by decide) ?_
  refine lv_iload hx hb dX12_feed_86 (lv_at hl 0 rfl) ?_
  refine lv_bipush (v := 24) hx hb dX12_feed_88 (by decide) ?_
  refine lv_bipush (v := 8) hx hb dX12_feed_90 (by decide) ?_
  refine lv_iload hx hb dX12_feed_92 (lv_at hl 1 rfl) ?_
  refine lv_pc (q := 94) rfl ?_
  refine lv_iconst (v := 4) hx hb dX12_feed_94 (by decide) ?_
  refine lv_irem hx hb dX12_feed_95 (by decide) ?_
  refine lv_fixi (y := 3) (by decide) ?_
  refine lv_imul hx hb dX12_feed_96 ?_
  refine lv_fixi (y := 24) (by decide) ?_
  refine lv_isub hx hb dX12_feed_97 ?_
  refine lv_fixi (y := 0) (by decide) ?_
  refine lv_ishr hx hb dX12_feed_98 ?_
  refine lv_sipush (v := 255) hx hb dX12_feed_99 (by decide) ?_
  refine lv_pc (q := 102) rfl ?_
  refine lv_iand hx hb dX12_feed_102 ?_
  refine uIast (i := 11) (j := 11) (ws' := [(ph0, .inr (12, [.int 0, .int 4, .int 4, .ref pg2, .ref pg3, .ref pg4, .ref pg5, .int 0, .ref pg6, .ref pg7, .int 0, .ref pg8, .ref pg9, .ref pg10, .ref pg11, .ref pg12, .ref pg13, .ref pg14, .int 0, .ref pg15, .ref pg16, .ref pg17, .ref pg18, .ref pg19, .ref pg20, .int 0, .ref pg21, .int 0, .int 0, .int 0, .ref pg22, .int 0, .int 0, .ref ph1, .int 0, .ref pg23, .ref pg24, .ref pg25, .ref pg26, .ref pg27, .ref pg28, .ref pg29, .ref pg30, .ref pg31, .ref pg32, .ref pg33, .ref pg34, .ref pg35, .ref pg36, .ref pg37, .ref pg38, .ref pg39, .ref pg40, .ref pg41, .ref pg42, .ref pg43, .ref pg44, .ref pg45, .int 0, .int 0, .int 0, .int 0, .int 0, .long 0, .int 0, .int 0, .int 0, .int 0, .int 0, .int (-1), .int 0, .ref pg46, .ref pg47, .ref pg48, .ref pg49, .ref pg50, .int 0, .int 0, .ref pg51, .ref pg52, .ref pg53, .ref pg54, .ref pg55, .ref pg56, .ref pg57, .ref pg58, .int 0, .int 0, .int 0, .int 0, .ref pg59, .ref pg60, .int 0, .ref pg61, .ref pg62, .ref pg63, .ref pg64, .ref pg65, .ref pg66])), (ph1, .inl (K 0, 1000, .inl (upd (upd (upd f3 9 ((px70 >>> (16 &&& 31)) &&& 255)) 10 ((px70 >>> (8 &&& 31)) &&& 255)) 11 ((px70 >>> (0 &&& 31)) &&& 255))))]) B hP hD hS 1 rfl (by decide) rfl rfl dX12_feed_103 (fun H locs hP hD hS => ?_)
  obtain ⟨f4, ef4⟩ : ∃ y : Nat → Int32, y = upd (upd (upd f3 9 ((px70 >>> (16 &&& 31)) &&& 255)) 10 ((px70 >>> (8 &&& 31)) &&& 255)) 11 ((px70 >>> (0 &&& 31)) &&& 255) := ⟨_, rfl⟩
  rw [← ef4] at hP hD
  clear ef4
  refine lv_iinc (v := 12) (lv' := [(6, .int 12), (7, .int px70), (0, .ref ph0), (1, .int px68), (2, .int px69), (3, .int px70), (4, .int px71), (5, .int px72)]) hx hb dX12_feed_104 hl (k := 1) rfl (by decide) (by decide) rfl (fun ls hl => ?_)
  refine lv_goto (tgt := 20) hx hb dX12_feed_107 (by decide) ?_
  refine lv_iload hx hb dX12_feed_20 (lv_at hl 0 rfl) ?_
  refine lv_bipush (v := 20) hx hb dX12_feed_22 (by decide) ?_
  refine lv_pc (q := 24) rfl ?_
  refine lv_icmp_ge (tgt := 110) hx hb dX12_feed_24 (by decide) (fun h9 => absurd h9 (by decide)) (fun _ => ?_)
  refine lv_iload hx hb dX12_feed_27 (lv_at hl 0 rfl) ?_
  refine lv_iconst (v := 4) hx hb dX12_feed_29 (by decide) ?_
  refine lv_icmp_ge (tgt := 37) hx hb dX12_feed_30 (by decide) (fun _ => ?_) (fun h9 => absurd (by decide) h9)
  refine lv_iload hx hb dX12_feed_37 (lv_at hl 0 rfl) ?_
  refine lv_bipush (v := 8) hx hb dX12_feed_39 (by decide) ?_
  refine lv_pc (q := 41) rfl ?_
  refine lv_icmp_ge (tgt := 48) hx hb dX12_feed_41 (by decide) (fun _ => ?_) (fun h9 => absurd (by decide) h9)
  refine lv_iload hx hb dX12_feed_48 (lv_at hl 0 rfl) ?_
  refine lv_bipush (v := 12) hx hb dX12_feed_50 (by decide) ?_
  refine lv_icmp_ge (tgt := 59) hx hb dX12_feed_52 (by decide) (fun _ => ?_) (fun h9 => absurd (by decide) h9)
  refine lv_iload hx hb dX12_feed_59 (lv_at hl 0 rfl) ?_
  refine lv_bipush (v := 16) hx hb dX12_feed_61 (by decide) ?_
  refine lv_pc (q := 63) rfl ?_
  refine lv_icmp_ge (tgt := 71) hx hb dX12_feed_63 (by decide) (fun h9 => absurd h9 (by decide)) (fun _ => ?_)
  refine lv_iload hx hb dX12_feed_66 (lv_at hl 6 rfl) ?_
  refine lv_goto (tgt := 73) hx hb dX12_feed_68 (by decide) ?_
  refine lv_istore (lv' := [(7, .int px71), (6, .int 12), (0, .ref ph0), (1, .int px68), (2, .int px69), (3, .int px70), (4, .int px71), (5, .int px72)]) hx hb dX12_feed_73 hl (by decide) rfl (fun ls hl => ?_)
  refine lv_aload_n hx hb dX12_feed_75 rfl (lv_at hl 2 rfl) ?_
  refine uGet (ci := 12) (C := RX12) (T := TX12) (N := 99) (v := .ref ph1) B inlX12 hP 0 rfl rfl 33 rfl mfl_X12_81 rfl rfl dX12_feed_76 ?_
  refine lv_pc (q := 79) rfl ?_
  refine lv_aload_n hx hb dX12_feed_79 rfl (lv_at hl 2 rfl) ?_
  refine uGet (ci := 12) (C := RX12) (T := TX12) (N := 99) (v := .int 0) B inlX12 hP 0 rfl rfl 34 rfl mfl_X12_378 rfl rfl dX12_feed_80 ?_
  refine lv_iload hx hb dX12_feed_83 (lv_at hl 1 rfl) ?_
  refine lv_iadd hx hb dX12_feed_85 ?_
  refine lv_fixi (y := 12) (by decide) ?_
  refine lv_iload hx hb dX12_feed_86 (lv_at hl 0 rfl) ?_
  refine lv_bipush (v := 24) hx hb dX12_feed_88 (by decide) ?_
  refine lv_pc (q := 90) rfl ?_
  refine lv_bipush (v := 8) hx hb dX12_feed_90 (by decide) ?_
  refine lv_iload hx hb dX12_feed_92 (lv_at hl 1 rfl) ?_
  refine lv_iconst (v := 4) hx hb dX12_feed_94 (by decide) ?_
  refine lv_irem hx hb dX12_feed_95 (by decide) ?_
  refine lv_fixi (y := 0) (by decide) ?_
  refine lv_imul hx hb dX12_feed_96 ?_
  refine lv_fixi (y := 0) (by decide) ?_
  refine lv_isub hx hb dX12_feed_97 ?_
  refine lv_fixi (y := 24) (by decide) ?_
  refine lv_pc (q := 98) rfl ?_
  refine lv_ishr hx hb dX12_feed_98 ?_
  refine lv_sipush (v := 255) hx hb dX12_feed_99 (by decide) ?_
  refine lv_iand hx hb dX12_feed_102 ?_
  refine uIast (i := 12) (j := 12) (ws' := [(ph0, .inr (12, [.int 0, .int 4, .int 4, .ref pg2, .ref pg3, .ref pg4, .ref pg5, .int 0, .ref pg6, .ref pg7, .int 0, .ref pg8, .ref pg9, .ref pg10, .ref pg11, .ref pg12, .ref pg13, .ref pg14, .int 0, .ref pg15, .ref pg16, .ref pg17, .ref pg18, .ref pg19, .ref pg20, .int 0, .ref pg21, .int 0, .int 0, .int 0, .ref pg22, .int 0, .int 0, .ref ph1, .int 0, .ref pg23, .ref pg24, .ref pg25, .ref pg26, .ref pg27, .ref pg28, .ref pg29, .ref pg30, .ref pg31, .ref pg32, .ref pg33, .ref pg34, .ref pg35, .ref pg36, .ref pg37, .ref pg38, .ref pg39, .ref pg40, .ref pg41, .ref pg42, .ref pg43, .ref pg44, .ref pg45, .int 0, .int 0, .int 0, .int 0, .int 0, .long 0, .int 0, .int 0, .int 0, .int 0, .int 0, .int (-1), .int 0, .ref pg46, .ref pg47, .ref pg48, .ref pg49, .ref pg50, .int 0, .int 0, .ref pg51, .ref pg52, .ref pg53, .ref pg54, .ref pg55, .ref pg56, .ref pg57, .ref pg58, .int 0, .int 0, .int 0, .int 0, .ref pg59, .ref pg60, .int 0, .ref pg61, .ref pg62, .ref pg63, .ref pg64, .ref pg65, .ref pg66])), (ph1, .inl (K 0, 1000, .inl (upd f4 12 ((px71 >>> (24 &&& 31)) &&& 255))))]) B hP hD hS 1 rfl (by decide) rfl rfl dX12_feed_103 (fun H locs hP hD hS => ?_)
  refine lv_iinc (v := 13) (lv' := [(6, .int 13), (7, .int px71), (0, .ref ph0), (1, .int px68), (2, .int px69), (3, .int px70), (4, .int px71), (5, .int px72)]) hx hb dX12_feed_104 hl (k := 1) rfl (by decide) (by decide) rfl (fun ls hl => ?_)
  refine lv_goto (tgt := 20) hx hb dX12_feed_107 (by decide) ?_
  refine lv_pc (q := 20) rfl ?_
  refine lv_iload hx hb dX12_feed_20 (lv_at hl 0 rfl) ?_
  refine lv_bipush (v := 20) hx hb dX12_feed_22 (by decide) ?_
  refine lv_icmp_ge (tgt := 110) hx hb dX12_feed_24 (by decide) (fun h9 => absurd h9 (by decide)) (fun _ => ?_)
  refine lv_iload hx hb dX12_feed_27 (lv_at hl 0 rfl) ?_
  refine lv_iconst (v := 4) hx hb dX12_feed_29 (by decide) ?_
  refine lv_icmp_ge (tgt := 37) hx hb dX12_feed_30 (by decide) (fun _ => ?_) (fun h9 => absurd (by decide) h9)
  refine lv_pc (q := 37) rfl ?_
  refine lv_iload hx hb dX12_feed_37 (lv_at hl 0 rfl) ?_
  refine lv_bipush (v := 8) hx hb dX12_feed_39 (by decide) ?_
  refine lv_icmp_ge (tgt := 48) hx hb dX12_feed_41 (by decide) (fun _ => ?_) (fun h9 => absurd (by decide) h9)
  refine lv_iload hx hb dX12_feed_48 (lv_at hl 0 rfl) ?_
  refine lv_bipush (v := 12) hx hb dX12_feed_50 (by decide) ?_
  refine lv_icmp_ge (tgt := 59) hx hb dX12_feed_52 (by decide) (fun _ => ?_) (fun h9 => absurd (by decide) h9)
  refine lv_pc (q := 59) rfl ?_
  refine lv_iload hx hb dX12_feed_59 (lv_at hl 0 rfl) ?_
  refine lv_bipush (v := 16) hx hb dX12_feed_61 (by decide) ?_
  refine lv_icmp_ge (tgt := 71) hx hb dX12_feed_63 (by decide) (fun h9 => absurd h9 (by decide)) (fun _ => ?_)
  refine lv_iload hx hb dX12_feed_66 (lv_at hl 6 rfl) ?_
  refine lv_goto (tgt := 73) hx hb dX12_feed_68 (by decide) ?_
  refine lv_istore (lv' := [(7, .int px71), (6, .int 13), (0, .ref ph0), (1, .int px68), (2, .int px69), (3, .int px70), (4, .int px71), (5, .int px72)]) hx hb dX12_feed_73 hl (by decide) rfl (fun ls hl => ?_)
  refine lv_pc (q := 75) rfl ?_
  refine lv_aload_n hx hb dX12_feed_75 rfl (lv_at hl 2 rfl) ?_
  refine uGet (ci := 12) (C := RX12) (T := TX12) (N := 99) (v := .ref ph1) B inlX12 hP 0 rfl rfl 33 rfl mfl_X12_81 rfl rfl dX12_feed_76 ?_
  refine lv_aload_n hx hb dX12_feed_79 rfl (lv_at hl 2 rfl) ?_
  refine uGet (ci := 12) (C := RX12) (T := TX12) (N := 99) (v := .int 0) B inlX12 hP 0 rfl rfl 34 rfl mfl_X12_378 rfl rfl dX12_feed_80 ?_
  refine lv_iload hx hb dX12_feed_83 (lv_at hl 1 rfl) ?_
  refine lv_iadd hx hb dX12_feed_85 ?_
  refine lv_fixi (y := 13) (by decide) ?_
  refine lv_pc (q := 86) rfl ?_
  refine lv_iload hx hb dX12_feed_86 (lv_at hl 0 rfl) ?_
  refine lv_bipush (v := 24) hx hb dX12_feed_88 (by decide) ?_
  refine lv_bipush (v := 8) hx hb dX12_feed_90 (by decide) ?_
  refine lv_iload hx hb dX12_feed_92 (lv_at hl 1 rfl) ?_
  refine lv_iconst (v := 4) hx hb dX12_feed_94 (by decide) ?_
  refine lv_irem hx hb dX12_feed_95 (by decide) ?_
  refine lv_fixi (y := 1) (by decide) ?_
  refine lv_pc (q := 96) rfl ?_
  refine lv_imul hx hb dX12_feed_96 ?_
  refine lv_fixi (y := 8) (by decide) ?_
  refine lv_isub hx hb dX12_feed_97 ?_
  refine lv_fixi (y := 16) (by decide) ?_
  refine lv_ishr hx hb dX12_feed_98 ?_
  refine lv_sipush (v := 255) hx hb dX12_feed_99 (by decide) ?_
  refine lv_iand hx hb dX12_feed_102 ?_
  refine uIast (i := 13) (j := 13) (ws' := [(ph0, .inr (12, [.int 0, .int 4, .int 4, .ref pg2, .ref pg3, .ref pg4, .ref pg5, .int 0, .ref pg6, .ref pg7, .int 0, .ref pg8, .ref pg9, .ref pg10, .ref pg11, .ref pg12, .ref pg13, .ref pg14, .int 0, .ref pg15, .ref pg16, .ref pg17, .ref pg18, .ref pg19, .ref pg20, .int 0, .ref pg21, .int 0, .int 0, .int 0, .ref pg22, .int 0, .int 0, .ref ph1, .int 0, .ref pg23, .ref pg24, .ref pg25, .ref pg26, .ref pg27, .ref pg28, .ref pg29, .ref pg30, .ref pg31, .ref pg32, .ref pg33, .ref pg34, .ref pg35, .ref pg36, .ref pg37, .ref pg38, .ref pg39, .ref pg40, .ref pg41, .ref pg42, .ref pg43, .ref pg44, .ref pg45, .int 0, .int 0, .int 0, .int 0, .int 0, .long 0, .int 0, .int 0, .int 0, .int 0, .int 0, .int (-1), .int 0, .ref pg46, .ref pg47, .ref pg48, .ref pg49, .ref pg50, .int 0, .int 0, .ref pg51, .ref pg52, .ref pg53, .ref pg54, .ref pg55, .ref pg56, .ref pg57, .ref pg58, .int 0, .int 0, .int 0, .int 0, .ref pg59, .ref pg60, .int 0, .ref pg61, .ref pg62, .ref pg63, .ref pg64, .ref pg65, .ref pg66])), (ph1, .inl (K 0, 1000, .inl (upd (upd f4 12 ((px71 >>> (24 &&& 31)) &&& 255)) 13 ((px71 >>> (16 &&& 31)) &&& 255))))]) B hP hD hS 1 rfl (by decide) rfl rfl dX12_feed_103 (fun H locs hP hD hS => ?_)
  refine lv_pc (q := 104) rfl ?_
  refine lv_iinc (v := 14) (lv' := [(6, .int 14), (7, .int px71), (0, .ref ph0), (1, .int px68), (2, .int px69), (3, .int px70), (4, .int px71), (5, .int px72)]) hx hb dX12_feed_104 hl (k := 1) rfl (by decide) (by decide) rfl (fun ls hl => ?_)
  refine lv_goto (tgt := 20) hx hb dX12_feed_107 (by decide) ?_
  refine lv_iload hx hb dX12_feed_20 (lv_at hl 0 rfl) ?_
  refine lv_bipush (v := 20) hx hb dX12_feed_22 (by decide) ?_
  refine lv_icmp_ge (tgt := 110) hx hb dX12_feed_24 (by decide) (fun h9 => absurd h9 (by decide)) (fun _ => ?_)
  refine lv_iload hx hb dX12_feed_27 (lv_at hl 0 rfl) ?_
  refine lv_pc (q := 29) rfl ?_
  refine lv_iconst (v := 4) hx hb dX12_feed_29 (by decide) ?_
  refine lv_icmp_ge (tgt := 37) hx hb dX12_feed_30 (by decide) (fun _ => ?_) (fun h9 => absurd (by decide) h9)
  refine lv_iload hx hb dX12_feed_37 (lv_at hl 0 rfl) ?_
  refine lv_bipush (v := 8) hx hb dX12_feed_39 (by decide) ?_
  refine lv_icmp_ge (tgt := 48) hx hb dX12_feed_41 (by decide) (fun _ => ?_) (fun h9 => absurd (by decide) h9)
  refine lv_iload hx hb dX12_feed_48 (lv_at hl 0 rfl) ?_
  refine lv_pc (q := 50) rfl ?_
  refine lv_bipush (v := 12) hx hb dX12_feed_50 (by decide) ?_
  refine lv_icmp_ge (tgt := 59) hx hb dX12_feed_52 (by decide) (fun _ => ?_) (fun h9 => absurd (by decide) h9)
  refine lv_iload hx hb dX12_feed_59 (lv_at hl 0 rfl) ?_
  refine lv_bipush (v := 16) hx hb dX12_feed_61 (by decide) ?_
  refine lv_icmp_ge (tgt := 71) hx hb dX12_feed_63 (by decide) (fun h9 => absurd h9 (by decide)) (fun _ => ?_)
  refine lv_iload hx hb dX12_feed_66 (lv_at hl 6 rfl) ?_
  refine lv_pc (q := 68) rfl ?_
  refine lv_goto (tgt := 73) hx hb dX12_feed_68 (by decide) ?_
  refine lv_istore (lv' := [(7, .int px71), (6, .int 14), (0, .ref ph0), (1, .int px68), (2, .int px69), (3, .int px70), (4, .int px71), (5, .int px72)]) hx hb dX12_feed_73 hl (by decide) rfl (fun ls hl => ?_)
  refine lv_aload_n hx hb dX12_feed_75 rfl (lv_at hl 2 rfl) ?_
  refine uGet (ci := 12) (C := RX12) (T := TX12) (N := 99) (v := .ref ph1) B inlX12 hP 0 rfl rfl 33 rfl mfl_X12_81 rfl rfl dX12_feed_76 ?_
  refine lv_aload_n hx hb dX12_feed_79 rfl (lv_at hl 2 rfl) ?_
  refine uGet (ci := 12) (C := RX12) (T := TX12) (N := 99) (v := .int 0) B inlX12 hP 0 rfl rfl 34 rfl mfl_X12_378 rfl rfl dX12_feed_80 ?_
  refine lv_pc (q := 83) rfl ?_
  refine lv_iload hx hb dX12_feed_83 (lv_at hl 1 rfl) ?_
  refine lv_iadd hx hb dX12_feed_85 ?_
  refine lv_fixi (y := 14) (by decide) ?_
  refine lv_iload hx hb dX12_feed_86 (lv_at hl 0 rfl) ?_
  refine lv_bipush (v := 24) hx hb dX12_feed_88 (by decide) ?_
  refine lv_bipush (v := 8) hx hb dX12_feed_90 (by decide) ?_
  refine lv_iload hx hb dX12_feed_92 (lv_at hl 1 rfl) ?_
  refine lv_pc (q := 94) rfl ?_
  refine lv_iconst (v := 4) hx hb dX12_feed_94 (by decide) ?_
  refine lv_irem hx hb dX12_feed_95 (by decide) ?_
  refine lv_fixi (y := 2) (by decide) ?_
  refine lv_imul hx hb dX12_feed_96 ?_
  refine lv_fixi (y := 16) (by decide) ?_
  refine lv_isub hx hb dX12_feed_97 ?_
  refine lv_fixi (y := 8) (by decide) ?_
  refine lv_ishr hx hb dX12_feed_98 ?_
  refine lv_sipush (v := 255) hx hb dX12_feed_99 (by decide) ?_
  refine lv_pc (q := 102) rfl ?_
  refine lv_iand hx hb dX12_feed_102 ?_
  refine uIast (i := 14) (j := 14) (ws' := [(ph0, .inr (12, [.int 0, .int 4, .int 4, .ref pg2, .ref pg3, .ref pg4, .ref pg5, .int 0, .ref pg6, .ref pg7, .int 0, .ref pg8, .ref pg9, .ref pg10, .ref pg11, .ref pg12, .ref pg13, .ref pg14, .int 0, .ref pg15, .ref pg16, .ref pg17, .ref pg18, .ref pg19, .ref pg20, .int 0, .ref pg21, .int 0, .int 0, .int 0, .ref pg22, .int 0, .int 0, .ref ph1, .int 0, .ref pg23, .ref pg24, .ref pg25, .ref pg26, .ref pg27, .ref pg28, .ref pg29, .ref pg30, .ref pg31, .ref pg32, .ref pg33, .ref pg34, .ref pg35, .ref pg36, .ref pg37, .ref pg38, .ref pg39, .ref pg40, .ref pg41, .ref pg42, .ref pg43, .ref pg44, .ref pg45, .int 0, .int 0, .int 0, .int 0, .int 0, .long 0, .int 0, .int 0, .int 0, .int 0, .int 0, .int (-1), .int 0, .ref pg46, .ref pg47, .ref pg48, .ref pg49, .ref pg50, .int 0, .int 0, .ref pg51, .ref pg52, .ref pg53, .ref pg54, .ref pg55, .ref pg56, .ref pg57, .ref pg58, .int 0, .int 0, .int 0, .int 0, .ref pg59, .ref pg60, .int 0, .ref pg61, .ref pg62, .ref pg63, .ref pg64, .ref pg65, .ref pg66])), (ph1, .inl (K 0, 1000, .inl (upd (upd (upd f4 12 ((px71 >>> (24 &&& 31)) &&& 255)) 13 ((px71 >>> (16 &&& 31)) &&& 255)) 14 ((px71 >>> (8 &&& 31)) &&& 255))))]) B hP hD hS 1 rfl (by decide) rfl rfl dX12_feed_103 (fun H locs hP hD hS => ?_)
  obtain ⟨f5, ef5⟩ : ∃ y : Nat → Int32, y = upd (upd (upd f4 12 ((px71 >>> (24 &&& 31)) &&& 255)) 13 ((px71 >>> (16 &&& 31)) &&& 255)) 14 ((px71 >>> (8 &&& 31)) &&& 255) := ⟨_, rfl⟩
  rw [← ef5] at hP hD
  clear ef5
  refine lv_iinc (v := 15) (lv' := [(6, .int 15), (7, .int px71), (0, .ref ph0), (1, .int px68), (2, .int px69), (3, .int px70), (4, .int px71), (5, .int px72)]) hx hb dX12_feed_104 hl (k := 1) rfl (by decide) (by decide) rfl (fun ls hl => ?_)
  refine lv_goto (tgt := 20) hx hb dX12_feed_107 (by decide) ?_
  refine lv_iload hx hb dX12_feed_20 (lv_at hl 0 rfl) ?_
  refine lv_bipush (v := 20) hx hb dX12_feed_22 (by decide) ?_
  refine lv_pc (q := 24) rfl ?_
  refine lv_icmp_ge (tgt := 110) hx hb dX12_feed_24 (by decide) (fun h9 => absurd h9 (by decide)) (fun _ => ?_)
  refine lv_iload hx hb dX12_feed_27 (lv_at hl 0 rfl) ?_
  refine lv_iconst (v := 4) hx hb dX12_feed_29 (by decide) ?_
  refine lv_icmp_ge (tgt := 37) hx hb dX12_feed_30 (by decide) (fun _ => ?_) (fun h9 => absurd (by decide) h9)
  refine lv_iload hx hb dX12_feed_37 (lv_at hl 0 rfl) ?_
  refine lv_bipush (v := 8) hx hb dX12_feed_39 (by decide) ?_
  refine lv_pc (q := 41) rfl ?_
  refine lv_icmp_ge (tgt := 48) hx hb dX12_feed_41 (by decide) (fun _ => ?_) (fun h9 => absurd (by decide) h9)
  refine lv_iload hx hb dX12_feed_48 (lv_at hl 0 rfl) ?_
  refine lv_bipush (v := 12) hx hb dX12_feed_50 (by decide) ?_
  refine lv_icmp_ge (tgt := 59) hx hb dX12_feed_52 (by decide) (fun _ => ?_) (fun h9 => absurd (by decide) h9)
  refine lv_iload hx hb dX12_feed_59 (lv_at hl 0 rfl) ?_
  refine lv_bipush (v := 16) hx hb dX12_feed_61 (by decide) ?_
  refine lv_pc (q := 63) rfl ?_
  refine lv_icmp_ge (tgt := 71) hx hb dX12_feed_63 (by decide) (fun h9 => absurd h9 (by decide)) (fun _ => ?_)
  refine lv_iload hx hb dX12_feed_66 (lv_at hl 6 rfl) ?_
  refine lv_goto (tgt := 73) hx hb dX12_feed_68 (by decide) ?_
  refine lv_istore (lv' := [(7, .int px71), (6, .int 15), (0, .ref ph0), (1, .int px68), (2, .int px69), (3, .int px70), (4, .int px71), (5, .int px72)]) hx hb dX12_feed_73 hl (by decide) rfl (fun ls hl => ?_)
  refine lv_aload_n hx hb dX12_feed_75 rfl (lv_at hl 2 rfl) ?_
  refine uGet (ci := 12) (C := RX12) (T := TX12) (N := 99) (v := .ref ph1) B inlX12 hP 0 rfl rfl 33 rfl mfl_X12_81 rfl rfl dX12_feed_76 ?_
  refine lv_pc (q := 79) rfl ?_
  refine lv_aload_n hx hb dX12_feed_79 rfl (lv_at hl 2 rfl) ?_
  refine uGet (ci := 12) (C := RX12) (T := TX12) (N := 99) (v := .int 0) B inlX12 hP 0 rfl rfl 34 rfl mfl_X12_378 rfl rfl dX12_feed_80 ?_
  refine lv_iload hx hb dX12_feed_83 (lv_at hl 1 rfl) ?_
  refine lv_iadd hx hb dX12_feed_85 ?_
  refine lv_fixi (y := 15) (by decide) ?_
  refine lv_iload hx hb dX12_feed_86 (lv_at hl 0 rfl) ?_
  refine lv_bipush (v := 24) hx hb dX12_feed_88 (by decide) ?_
  refine lv_pc (q := 90) rfl ?_
  refine lv_bipush (v := 8) hx hb dX12_feed_90 (by decide) ?_
  refine lv_iload hx hb dX12_feed_92 (lv_at hl 1 rfl) ?_
  refine lv_iconst (v := 4) hx hb dX12_feed_94 (by decide) ?_
  refine lv_irem hx hb dX12_feed_95 (by decide) ?_
  refine lv_fixi (y := 3) (by decide) ?_
  refine lv_imul hx hb dX12_feed_96 ?_
  refine lv_fixi (y := 24) (by decide) ?_
  refine lv_isub hx hb dX12_feed_97 ?_
  refine lv_fixi (y := 0) (by decide) ?_
  refine lv_pc (q := 98) rfl ?_
  refine lv_ishr hx hb dX12_feed_98 ?_
  refine lv_sipush (v := 255) hx hb dX12_feed_99 (by decide) ?_
  refine lv_iand hx hb dX12_feed_102 ?_
  refine uIast (i := 15) (j := 15) (ws' := [(ph0, .inr (12, [.int 0, .int 4, .int 4, .ref pg2, .ref pg3, .ref pg4, .ref pg5, .int 0, .ref pg6, .ref pg7, .int 0, .ref pg8, .ref pg9, .ref pg10, .ref pg11, .ref pg12, .ref pg13, .ref pg14, .int 0, .ref pg15, .ref pg16, .ref pg17, .ref pg18, .ref pg19, .ref pg20, .int 0, .ref pg21, .int 0, .int 0, .int 0, .ref pg22, .int 0, .int 0, .ref ph1, .int 0, .ref pg23, .ref pg24, .ref pg25, .ref pg26, .ref pg27, .ref pg28, .ref pg29, .ref pg30, .ref pg31, .ref pg32, .ref pg33, .ref pg34, .ref pg35, .ref pg36, .ref pg37, .ref pg38, .ref pg39, .ref pg40, .ref pg41, .ref pg42, .ref pg43, .ref pg44, .ref pg45, .int 0, .int 0, .int 0, .int 0, .int 0, .long 0, .int 0, .int 0, .int 0, .int 0, .int 0, .int (-1), .int 0, .ref pg46, .ref pg47, .ref pg48, .ref pg49, .ref pg50, .int 0, .int 0, .ref pg51, .ref pg52, .ref pg53, .ref pg54, .ref pg55, .ref pg56, .ref pg57, .ref pg58, .int 0, .int 0, .int 0, .int 0, .ref pg59, .ref pg60, .int 0, .ref pg61, .ref pg62, .ref pg63, .ref pg64, .ref pg65, .ref pg66])), (ph1, .inl (K 0, 1000, .inl (upd f5 15 ((px71 >>> (0 &&& 31)) &&& 255))))]) B hP hD hS 1 rfl (by decide) rfl rfl dX12_feed_103 (fun H locs hP hD hS => ?_)
  refine lv_iinc (v := 16) (lv' := [(6, .int 16), (7, .int px71), (0, .ref ph0), (1, .int px68), (2, .int px69), (3, .int px70), (4, .int px71), (5, .int px72)]) hx hb dX12_feed_104 hl (k := 1) rfl (by decide) (by decide) rfl (fun ls hl => ?_)
  refine lv_goto (tgt := 20) hx hb dX12_feed_107 (by decide) ?_
  refine lv_pc (q := 20) rfl ?_
  refine lv_iload hx hb dX12_feed_20 (lv_at hl 0 rfl) ?_
  refine lv_bipush (v := 20) hx hb dX12_feed_22 (by decide) ?_
  refine lv_icmp_ge (tgt := 110) hx hb dX12_feed_24 (by decide) (fun h9 => absurd h9 (by decide)) (fun _ => ?_)
  refine lv_iload hx hb dX12_feed_27 (lv_at hl 0 rfl) ?_
  refine lv_iconst (v := 4) hx hb dX12_feed_29 (by decide) ?_
  refine lv_icmp_ge (tgt := 37) hx hb dX12_feed_30 (by decide) (fun _ => ?_) (fun h9 => absurd (by decide) h9)
  refine lv_pc (q := 37) rfl ?_
  refine lv_iload hx hb dX12_feed_37 (lv_at hl 0 rfl) ?_
  refine lv_bipush (v := 8) hx hb dX12_feed_39 (by decide) ?_
  refine lv_icmp_ge (tgt := 48) hx hb dX12_feed_41 (by decide) (fun _ => ?_) (fun h9 => absurd (by decide) h9)
  refine lv_iload hx hb dX12_feed_48 (lv_at hl 0 rfl) ?_
  refine lv_bipush (v := 12) hx hb dX12_feed_50 (by decide) ?_
  refine lv_icmp_ge (tgt := 59) hx hb dX12_feed_52 (by decide) (fun _ => ?_) (fun h9 => absurd (by decide) h9)
  refine lv_pc (q := 59) rfl ?_
  refine lv_iload hx hb dX12_feed_59 (lv_at hl 0 rfl) ?_
  refine lv_bipush (v := 16) hx hb dX12_feed_61 (by decide) ?_
  refine lv_icmp_ge (tgt := 71) hx hb dX12_feed_63 (by decide) (fun _ => ?_) (fun h9 => absurd (by decide) h9)
  refine lv_iload hx hb dX12_feed_71 (lv_at hl 7 rfl) ?_
  refine lv_istore (lv' := [(7, .int px72), (6, .int 16), (0, .ref ph0), (1, .int px68), (2, .int px69), (3, .int px70), (4, .int px71), (5, .int px72)]) hx hb dX12_feed_73 hl (by decide) rfl (fun ls hl => ?_)
  refine lv_aload_n hx hb dX12_feed_75 rfl (lv_at hl 2 rfl) ?_
  refine lv_pc (q := 76) rfl ?_
  refine uGet (ci := 12) (C := RX12) (T := TX12) (N := 99) (v := .ref ph1) B inlX12 hP 0 rfl rfl 33 rfl mfl_X12_81 rfl rfl dX12_feed_76 ?_
  refine lv_aload_n hx hb dX12_feed_79 rfl (lv_at hl 2 rfl) ?_
  refine uGet (ci := 12) (C := RX12) (T := TX12) (N := 99) (v := .int 0) B inlX12 hP 0 rfl rfl 34 rfl mfl_X12_378 rfl rfl dX12_feed_80 ?_
  refine lv_iload hx hb dX12_feed_83 (lv_at hl 1 rfl) ?_
  refine lv_iadd hx hb dX12_feed_85 ?_
  refine lv_fixi (y := 16) (by decide) ?_
  refine lv_iload hx hb dX12_feed_86 (lv_at hl 0 rfl) ?_
  refine lv_pc (q := 88) rfl ?_
  refine lv_bipush (v := 24) hx hb dX12_feed_88 (by decide) ?_
  refine lv_bipush (v := 8) hx hb dX12_feed_90 (by decide) ?_
  refine lv_iload hx hb dX12_feed_92 (lv_at hl 1 rfl) ?_
  refine lv_iconst (v := 4) hx hb dX12_feed_94 (by decide) ?_
  refine lv_irem hx hb dX12_feed_95 (by decide) ?_
  refine lv_fixi (y := 0) (by decide) ?_
  refine lv_imul hx hb dX12_feed_96 ?_
  refine lv_fixi (y := 0) (by decide) ?_
  refine lv_pc (q := 97) rfl ?_
  refine lv_isub hx hb dX12_feed_97 ?_
  refine lv_fixi (y := 24) (by decide) ?_
  refine lv_ishr hx hb dX12_feed_98 ?_
  refine lv_sipush (v := 255) hx hb dX12_feed_99 (by decide) ?_
  refine lv_iand hx hb dX12_feed_102 ?_
  refine uIast (i := 16) (j := 16) (ws' := [(ph0, .inr (12, [.int 0, .int 4, .int 4, .ref pg2, .ref pg3, .ref pg4, .ref pg5, .int 0, .ref pg6, .ref pg7, .int 0, .ref pg8, .ref pg9, .ref pg10, .ref pg11, .ref pg12, .ref pg13, .ref pg14, .int 0, .ref pg15, .ref pg16, .ref pg17, .ref pg18, .ref pg19, .ref pg20, .int 0, .ref pg21, .int 0, .int 0, .int 0, .ref pg22, .int 0, .int 0, .ref ph1, .int 0, .ref pg23, .ref pg24, .ref pg25, .ref pg26, .ref pg27, .ref pg28, .ref pg29, .ref pg30, .ref pg31, .ref pg32, .ref pg33, .ref pg34, .ref pg35, .ref pg36, .ref pg37, .ref pg38, .ref pg39, .ref pg40, .ref pg41, .ref pg42, .ref pg43, .ref pg44, .ref pg45, .int 0, .int 0, .int 0, .int 0, .int 0, .long 0, .int 0, .int 0, .int 0, .int 0, .int 0, .int (-1), .int 0, .ref pg46, .ref pg47, .ref pg48, .ref pg49, .ref pg50, .int 0, .int 0, .ref pg51, .ref pg52, .ref pg53, .ref pg54, .ref pg55, .ref pg56, .ref pg57, .ref pg58, .int 0, .int 0, .int 0, .int 0, .ref pg59, .ref pg60, .int 0, .ref pg61, .ref pg62, .ref pg63, .ref pg64, .ref pg65, .ref pg66])), (ph1, .inl (K 0, 1000, .inl (upd (upd f5 15 ((px71 >>> (0 &&& 31)) &&& 255)) 16 ((px72 >>> (24 &&& 31)) &&& 255))))]) B hP hD hS 1 rfl (by decide) rfl rfl dX12_feed_103 (fun H locs hP hD hS => ?_)
  refine lv_iinc (v := 17) (lv' := [(6, .int 17), (7, .int px72), (0, .ref ph0), (1, .int px68), (2, .int px69), (3, .int px70), (4, .int px71), (5, .int px72)]) hx hb dX12_feed_104 hl (k := 1) rfl (by decide) (by decide) rfl (fun ls hl => ?_)
  refine lv_pc (q := 107) rfl ?_
  refine lv_goto (tgt := 20) hx hb dX12_feed_107 (by decide) ?_
  refine lv_iload hx hb dX12_feed_20 (lv_at hl 0 rfl) ?_
  refine lv_bipush (v := 20) hx hb dX12_feed_22 (by decide) ?_
  refine lv_icmp_ge (tgt := 110) hx hb dX12_feed_24 (by decide) (fun h9 => absurd h9 (by decide)) (fun _ => ?_)
  refine lv_iload hx hb dX12_feed_27 (lv_at hl 0 rfl) ?_
  refine lv_iconst (v := 4) hx hb dX12_feed_29 (by decide) ?_
  refine lv_pc (q := 30) rfl ?_
  refine lv_icmp_ge (tgt := 37) hx hb dX12_feed_30 (by decide) (fun _ => ?_) (fun h9 => absurd (by decide) h9)
  refine lv_iload hx hb dX12_feed_37 (lv_at hl 0 rfl) ?_
  refine lv_bipush (v := 8) hx hb dX12_feed_39 (by decide) ?_
  refine lv_icmp_ge (tgt := 48) hx hb dX12_feed_41 (by decide) (fun _ => ?_) (fun h9 => absurd (by decide) h9)
  refine lv_iload hx hb dX12_feed_48 (lv_at hl 0 rfl) ?_
  refine lv_bipush (v := 12) hx hb dX12_feed_50 (by decide) ?_
  refine lv_pc (q := 52) rfl ?_
  refine lv_icmp_ge (tgt := 59) hx hb dX12_feed_52 (by decide) (fun _ => ?_) (fun h9 => absurd (by decide) h9)
  refine lv_iload hx hb dX12_feed_59 (lv_at hl 0 rfl) ?_
  refine lv_bipush (v := 16) hx hb dX12_feed_61 (by decide) ?_
  refine lv_icmp_ge (tgt := 71) hx hb dX12_feed_63 (by decide) (fun _ => ?_) (fun h9 => absurd (by decide) h9)
  refine lv_iload hx hb dX12_feed_71 (lv_at hl 7 rfl) ?_
  refine lv_istore (lv' := [(7, .int px72), (6, .int 17), (0, .ref ph0), (1, .int px68), (2, .int px69), (3, .int px70), (4, .int px71), (5, .int px72)]) hx hb dX12_feed_73 hl (by decide) rfl (fun ls hl => ?_)
  refine lv_pc (q := 75) rfl ?_
  refine lv_aload_n hx hb dX12_feed_75 rfl (lv_at hl 2 rfl) ?_
  refine uGet (ci := 12) (C := RX12) (T := TX12) (N := 99) (v := .ref ph1) B inlX12 hP 0 rfl rfl 33 rfl mfl_X12_81 rfl rfl dX12_feed_76 ?_
  refine lv_aload_n hx hb dX12_feed_79 rfl (lv_at hl 2 rfl) ?_
  refine uGet (ci := 12) (C := RX12) (T := TX12) (N := 99) (v := .int 0) B inlX12 hP 0 rfl rfl 34 rfl mfl_X12_378 rfl rfl dX12_feed_80 ?_
  refine lv_iload hx hb dX12_feed_83 (lv_at hl 1 rfl) ?_
  refine lv_iadd hx hb dX12_feed_85 ?_
  refine lv_fixi (y := 17) (by decide) ?_
  refine lv_pc (q := 86) rfl ?_
  refine lv_iload hx hb dX12_feed_86 (lv_at hl 0 rfl) ?_
  refine lv_bipush (v := 24) hx hb dX12_feed_88 (by decide) ?_
  refine lv_bipush (v := 8) hx hb dX12_feed_90 (by decide) ?_
  refine lv_iload hx hb dX12_feed_92 (lv_at hl 1 rfl) ?_
  refine lv_iconst (v := 4) hx hb dX12_feed_94 (by decide) ?_
  refine lv_irem hx hb dX12_feed_95 (by decide) ?_
  refine lv_fixi (y := 1) (by decide) ?_
  refine lv_pc (q := 96) rfl ?_
  refine lv_imul hx hb dX12_feed_96 ?_
  refine lv_fixi (y := 8) (by decide) ?_
  refine lv_isub hx hb dX12_feed_97 ?_
  refine lv_fixi (y := 16) (by decide) ?_
  refine lv_ishr hx hb dX12_feed_98 ?_
  refine lv_sipush (v := 255) hx hb dX12_feed_99 (by decide) ?_
  refine lv_iand hx hb dX12_feed_102 ?_
  refine uIast (i := 17) (j := 17) (ws' := [(ph0, .inr (12, [.int 0, .int 4, .int 4, .ref pg2, .ref pg3, .ref pg4, .ref pg5, .int 0, .ref pg6, .ref pg7, .int 0, .ref pg8, .ref pg9, .ref pg10, .ref pg11, .ref pg12, .ref pg13, .ref pg14, .int 0, .ref pg15, .ref pg16, .ref pg17, .ref pg18, .ref pg19, .ref pg20, .int 0, .ref pg21, .int 0, .int 0, .int 0, .ref pg22, .int 0, .int 0, .ref ph1, .int 0, .ref pg23, .ref pg24, .ref pg25, .ref pg26, .ref pg27, .ref pg28, .ref pg29, .ref pg30, .ref pg31, .ref pg32, .ref pg33, .ref pg34, .ref pg35, .ref pg36, .ref pg37, .ref pg38, .ref pg39, .ref pg40, .ref pg41, .ref pg42, .ref pg43, .ref pg44, .ref pg45, .int 0, .int 0, .int 0, .int 0, .int 0, .long 0, .int 0, .int 0, .int 0, .int 0, .int 0, .int (-1), .int 0, .ref pg46, .ref pg47, .ref pg48, .ref pg49, .ref pg50, .int 0, .int 0, .ref pg51, .ref pg52, .ref pg53, .ref pg54, .ref pg55, .ref pg56, .ref pg57, .ref pg58, .int 0, .int 0, .int 0, .int 0, .ref pg59, .ref pg60, .int 0, .ref pg61, .ref pg62, .ref pg63, .ref pg64, .ref pg65, .ref pg66])), (ph1, .inl (K 0, 1000, .inl (upd (upd (upd f5 15 ((px71 >>> (0 &&& 31)) &&& 255)) 16 ((px72 >>> (24 &&& 31)) &&& 255)) 17 ((px72 >>> (16 &&& 31)) &&& 255))))]) B hP hD hS 1 rfl (by decide) rfl rfl dX12_feed_103 (fun H locs hP hD hS => ?_)
  obtain ⟨f6, ef6⟩ : ∃ y : Nat → Int32, y = upd (upd (upd f5 15 ((px71 >>> (0 &&& 31)) &&& 255)) 16 ((px72 >>> (24 &&& 31)) &&& 255)) 17 ((px72 >>> (16 &&& 31)) &&& 255) := ⟨_, rfl⟩
  rw [← ef6] at hP hD
  clear ef6
  refine lv_pc (q := 104) rfl ?_
  refine lv_iinc (v := 18) (lv' := [(6, .int 18), (7, .int px72), (0, .ref ph0), (1, .int px68), (2, .int px69), (3, .int px70), (4, .int px71), (5, .int px72)]) hx hb dX12_feed_104 hl (k := 1) rfl (by decide) (by decide) rfl (fun ls hl => ?_)
  refine lv_goto (tgt := 20) hx hb dX12_feed_107 (by decide) ?_
  refine lv_iload hx hb dX12_feed_20 (lv_at hl 0 rfl) ?_
  refine lv_bipush (v := 20) hx hb dX12_feed_22 (by decide) ?_
  refine lv_icmp_ge (tgt := 110) hx hb dX12_feed_24 (by decide) (fun h9 => absurd h9 (by decide)) (fun _ => ?_)
  refine lv_iload hx hb dX12_feed_27 (lv_at hl 0 rfl) ?_
  refine lv_pc (q := 29) rfl ?_
  refine lv_iconst (v := 4) hx hb dX12_feed_29 (by decide) ?_
  refine lv_icmp_ge (tgt := 37) hx hb dX12_feed_30 (by decide) (fun _ => ?_) (fun h9 => absurd (by decide) h9)
  refine lv_iload hx hb dX12_feed_37 (lv_at hl 0 rfl) ?_
  refine lv_bipush (v := 8) hx hb dX12_feed_39 (by decide) ?_
  refine lv_icmp_ge (tgt := 48) hx hb dX12_feed_41 (by decide) (fun _ => ?_) (fun h9 => absurd (by decide) h9)
  refine lv_iload hx hb dX12_feed_48 (lv_at hl 0 rfl) ?_
  refine lv_pc (q := 50) rfl ?_
  refine lv_bipush (v := 12) hx hb dX12_feed_50 (by decide) ?_
  refine lv_icmp_ge (tgt := 59) hx hb dX12_feed_52 (by decide) (fun _ => ?_) (fun h9 => absurd (by decide) h9)
  refine lv_iload hx hb dX12_feed_59 (lv_at hl 0 rfl) ?_
  refine lv_bipush (v := 16) hx hb dX12_feed_61 (by decide) ?_
  refine lv_icmp_ge (tgt := 71) hx hb dX12_feed_63 (by decide) (fun _ => ?_) (fun h9 => absurd (by decide) h9)
  refine lv_iload hx hb dX12_feed_71 (lv_at hl 7 rfl) ?_
  refine lv_pc (q := 73) rfl ?_
  refine lv_istore (lv' := [(7, .int px72), (6, .int 18), (0, .ref ph0), (1, .int px68), (2, .int px69), (3, .int px70), (4, .int px71), (5, .int px72)]) hx hb dX12_feed_73 hl (by decide) rfl (fun ls hl => ?_)
  refine lv_aload_n hx hb dX12_feed_75 rfl (lv_at hl 2 rfl) ?_
  refine uGet (ci := 12) (C := RX12) (T := TX12) (N := 99) (v := .ref ph1) B inlX12 hP 0 rfl rfl 33 rfl mfl_X12_81 rfl rfl dX12_feed_76 ?_
  refine lv_aload_n hx hb dX12_feed_79 rfl (lv_at hl 2 rfl) ?_
  refine uGet (ci := 12) (C := RX12) (T := TX12) (N := 99) (v := .int 0) B inlX12 hP 0 rfl rfl 34 rfl mfl_X12_378 rfl rfl dX12_feed_80 ?_
  refine lv_iload hx hb dX12_feed_83 (lv_at hl 1 rfl) ?_
  refine lv_pc (q := 85) rfl ?_
  refine lv_iadd hx hb dX12_feed_85 ?_
  refine lv_fixi (y := 18) (by decide) ?_
  refine lv_iload hx hb dX12_feed_86 (lv_at hl 0 rfl) ?_
  refine lv_bipush (v := 24) hx hb dX12_feed_88 (by decide) ?_
  refine lv_bipush (v := 8) hx hb dX12_feed_90 (by decide) ?_
  refine lv_iload hx hb dX12_feed_92 (lv_at hl 1 rfl) ?_
  refine lv_iconst (v := 4) hx hb dX12_feed_94 (by decide) ?_
  refine lv_pc (q := 95) rfl ?_
  refine lv_irem hx hb dX12_feed_95 (by decide) ?_
  refine lv_fixi (y := 2) (by decide) ?_
  refine lv_imul hx hb dX12_feed_96 ?_
  refine lv_fixi (y := 16) (by decide) ?_
  refine lv_isub hx hb dX12_feed_97 ?_
  refine lv_fixi (y := 8) (by decide) ?_
  refine lv_ishr hx hb dX12_feed_98 ?_
  refine lv_sipush (v := 255) hx hb dX12_feed_99 (by decide) ?_
  refine lv_iand hx hb dX12_feed_102 ?_
  refine lv_pc (q := 103) rfl ?_
  refine uIast (i := 18) (j := 18) (ws' := [(ph0, .inr (12, [.int 0, .int 4, .int 4, .ref pg2, .ref pg3, .ref pg4, .ref pg5, .int 0, .ref pg6, .ref pg7, .int 0, .ref pg8, .ref pg9, .ref pg10, .ref pg11, .ref pg12, .ref pg13, .ref pg14, .int 0, .ref pg15, .ref pg16, .ref pg17, .ref pg18, .ref pg19, .ref pg20, .int 0, .ref pg21, .int 0, .int 0, .int 0, .ref pg22, .int 0, .int 0, .ref ph1, .int 0, .ref pg23, .ref pg24, .ref pg25, .ref pg26, .ref pg27, .ref pg28, .ref pg29, .ref pg30, .ref pg31, .ref pg32, .ref pg33, .ref pg34, .ref pg35, .ref pg36, .ref pg37, .ref pg38, .ref pg39, .ref pg40, .ref pg41, .ref pg42, .ref pg43, .ref pg44, .ref pg45, .int 0, .int 0, .int 0, .int 0, .int 0, .long 0, .int 0, .int 0, .int 0, .int 0, .int 0, .int (-1), .int 0, .ref pg46, .ref pg47, .ref pg48, .ref pg49, .ref pg50, .int 0, .int 0, .ref pg51, .ref pg52, .ref pg53, .ref pg54, .ref pg55, .ref pg56, .ref pg57, .ref pg58, .int 0, .int 0, .int 0, .int 0, .ref pg59, .ref pg60, .int 0, .ref pg61, .ref pg62, .ref pg63, .ref pg64, .ref pg65, .ref pg66])), (ph1, .inl (K 0, 1000, .inl (upd f6 18 ((px72 >>> (8 &&& 31)) &&& 255))))]) B hP hD hS 1 rfl (by decide) rfl rfl dX12_feed_103 (fun H locs hP hD hS => ?_)
  refine lv_iinc (v := 19) (lv' := [(6, .int 19), (7, .int px72), (0, .ref ph0), (1, .int px68), (2, .int px69), (3, .int px70), (4, .int px71), (5, .int px72)]) hx hb dX12_feed_104 hl (k := 1) rfl (by decide) (by decide) rfl (fun ls hl => ?_)
  refine lv_goto (tgt := 20) hx hb dX12_feed_107 (by decide) ?_
  refine lv_iload hx hb dX12_feed_20 (lv_at hl 0 rfl) ?_
  refine lv_bipush (v := 20) hx hb dX12_feed_22 (by decide) ?_
  refine lv_icmp_ge (tgt := 110) hx hb dX12_feed_24 (by decide) (fun h9 => absurd h9 (by decide)) (fun _ => ?_)
  refine lv_pc (q := 27) rfl ?_
  refine lv_iload hx hb dX12_feed_27 (lv_at hl 0 rfl) ?_
  refine lv_iconst (v := 4) hx hb dX12_feed_29 (by decide) ?_
  refine lv_icmp_ge (tgt := 37) hx hb dX12_feed_30 (by decide) (fun _ => ?_) (fun h9 => absurd (by decide) h9)
  refine lv_iload hx hb dX12_feed_37 (lv_at hl 0 rfl) ?_
  refine lv_bipush (v := 8) hx hb dX12_feed_39 (by decide) ?_
  refine lv_icmp_ge (tgt := 48) hx hb dX12_feed_41 (by decide) (fun _ => ?_) (fun h9 => absurd (by decide) h9)
  refine lv_pc (q := 48) rfl ?_
  refine lv_iload hx hb dX12_feed_48 (lv_at hl 0 rfl) ?_
  refine lv_bipush (v := 12) hx hb dX12_feed_50 (by decide) ?_
  refine lv_icmp_ge (tgt := 59) hx hb dX12_feed_52 (by decide) (fun _ => ?_) (fun h9 => absurd (by decide) h9)
  refine lv_iload hx hb dX12_feed_59 (lv_at hl 0 rfl) ?_
  refine lv_bipush (v := 16) hx hb dX12_feed_61 (by decide) ?_
  refine lv_icmp_ge (tgt := 71) hx hb dX12_feed_63 (by decide) (fun _ => ?_) (fun h9 => absurd (by decide) h9)
  refine lv_pc (q := 71) rfl ?_
  refine lv_iload hx hb dX12_feed_71 (lv_at hl 7 rfl) ?_
  refine lv_istore (lv' := [(7, .int px72), (6, .int 19), (0, .ref ph0), (1, .int px68), (2, .int px69), (3, .int px70), (4, .int px71), (5, .int px72)]) hx hb dX12_feed_73 hl (by decide) rfl (fun ls hl => ?_)
  refine lv_aload_n hx hb dX12_feed_75 rfl (lv_at hl 2 rfl) ?_
  refine uGet (ci := 12) (C := RX12) (T := TX12) (N := 99) (v := .ref ph1) B inlX12 hP 0 rfl rfl 33 rfl mfl_X12_81 rfl rfl dX12_feed_76 ?_
  refine lv_aload_n hx hb dX12_feed_79 rfl (lv_at hl 2 rfl) ?_
  refine uGet (ci := 12) (C := RX12) (T := TX12) (N := 99) (v := .int 0) B inlX12 hP 0 rfl rfl 34 rfl mfl_X12_378 rfl rfl dX12_feed_80 ?_
  refine lv_pc (q := 83) rfl ?_
  refine lv_iload hx hb dX12_feed_83 (lv_at hl 1 rfl) ?_
  refine lv_iadd hx hb dX12_feed_85 ?_
  refine lv_fixi (y := 19) (by decide) ?_
  refine lv_iload hx hb dX12_feed_86 (lv_at hl 0 rfl) ?_
  refine lv_bipush (v := 24) hx hb dX12_feed_88 (by decide) ?_
  refine lv_bipush (v := 8) hx hb dX12_feed_90 (by decide) ?_
  refine lv_iload hx hb dX12_feed_92 (lv_at hl 1 rfl) ?_
  refine lv_pc (q := 94) rfl ?_
  refine lv_iconst (v := 4) hx hb dX12_feed_94 (by decide) ?_
  refine lv_irem hx hb dX12_feed_95 (by decide) ?_
  refine lv_fixi (y := 3) (by decide) ?_
  refine lv_imul hx hb dX12_feed_96 ?_
  refine lv_fixi (y := 24) (by decide) ?_
  refine lv_isub hx hb dX12_feed_97 ?_
  refine lv_fixi (y := 0) (by decide) ?_
  refine lv_ishr hx hb dX12_feed_98 ?_
  refine lv_sipush (v := 255) hx hb dX12_feed_99 (by decide) ?_
  refine lv_pc (q := 102) rfl ?_
  refine lv_iand hx hb dX12_feed_102 ?_
  refine uIast (i := 19) (j := 19) (ws' := [(ph0, .inr (12, [.int 0, .int 4, .int 4, .ref pg2, .ref pg3, .ref pg4, .ref pg5, .int 0, .ref pg6, .ref pg7, .int 0, .ref pg8, .ref pg9, .ref pg10, .ref pg11, .ref pg12, .ref pg13, .ref pg14, .int 0, .ref pg15, .ref pg16, .ref pg17, .ref pg18, .ref pg19, .ref pg20, .int 0, .ref pg21, .int 0, .int 0, .int 0, .ref pg22, .int 0, .int 0, .ref ph1, .int 0, .ref pg23, .ref pg24, .ref pg25, .ref pg26, .ref pg27, .ref pg28, .ref pg29, .ref pg30, .ref pg31, .ref pg32, .ref pg33, .ref pg34, .ref pg35, .ref pg36, .ref pg37, .ref pg38, .ref pg39, .ref pg40, .ref pg41, .ref pg42, .ref pg43, .ref pg44, .ref pg45, .int 0, .int 0, .int 0, .int 0, .int 0, .long 0, .int 0, .int 0, .int 0, .int 0, .int 0, .int (-1), .int 0, .ref pg46, .ref pg47, .ref pg48, .ref pg49, .ref pg50, .int 0, .int 0, .ref pg51, .ref pg52, .ref pg53, .ref pg54, .ref pg55, .ref pg56, .ref pg57, .ref pg58, .int 0, .int 0, .int 0, .int 0, .ref pg59, .ref pg60, .int 0, .ref pg61, .ref pg62, .ref pg63, .ref pg64, .ref pg65, .ref pg66])), (ph1, .inl (K 0, 1000, .inl (upd (upd f6 18 ((px72 >>> (8 &&& 31)) &&& 255)) 19 ((px72 >>> (0 &&& 31)) &&& 255))))]) B hP hD hS 1 rfl (by decide) rfl rfl dX12_feed_103 (fun H locs hP hD hS => ?_)
  refine lv_iinc (v := 20) (lv' := [(6, .int 20), (7, .int px72), (0, .ref ph0), (1, .int px68), (2, .int px69), (3, .int px70), (4, .int px71), (5, .int px72)]) hx hb dX12_feed_104 hl (k := 1) rfl (by decide) (by decide) rfl (fun ls hl => ?_)
  refine lv_goto (tgt := 20) hx hb dX12_feed_107 (by decide) ?_
  refine lv_iload hx hb dX12_feed_20 (lv_at hl 0 rfl) ?_
  refine lv_bipush (v := 20) hx hb dX12_feed_22 (by decide) ?_
  refine lv_pc (q := 24) rfl ?_
  refine lv_icmp_ge (tgt := 110) hx hb dX12_feed_24 (by decide) (fun _ => ?_) (fun h9 => absurd (by decide) h9)
  refine lv_aload_n hx hb dX12_feed_110 rfl (lv_at hl 2 rfl) ?_
  refine lv_dup hx hb dX12_feed_111 rfl ?_
  refine uGet (ci := 12) (C := RX12) (T := TX12) (N := 99) (v := .int 0) B inlX12 hP 0 rfl rfl 34 rfl mfl_X12_378 rfl rfl dX12_feed_112 ?_
  refine lv_bipush (v := 20) hx hb dX12_feed_115 (by decide) ?_
  refine lv_iadd hx hb dX12_feed_117 ?_
  refine lv_fixi (y := 20) (by decide) ?_
  refine lv_pc (q := 118) rfl ?_
  refine uPut (ci := 12) (C := RX12) (T := TX12) (N := 99) (ws' := [(ph0, .inr (12, [.int 0, .int 4, .int 4, .ref pg2, .ref pg3, .ref pg4, .ref pg5, .int 0, .ref pg6, .ref pg7, .int 0, .ref pg8, .ref pg9, .ref pg10, .ref pg11, .ref pg12, .ref pg13, .ref pg14, .int 0, .ref pg15, .ref pg16, .ref pg17, .ref pg18, .ref pg19, .ref pg20, .int 0, .ref pg21, .int 0, .int 0, .int 0, .ref pg22, .int 0, .int 0, .ref ph1, .int 20, .ref pg23, .ref pg24, .ref pg25, .ref pg26, .ref pg27, .ref pg28, .ref pg29, .ref pg30, .ref pg31, .ref pg32, .ref pg33, .ref pg34, .ref pg35, .ref pg36, .ref pg37, .ref pg38, .ref pg39, .ref pg40, .ref pg41, .ref pg42, .ref pg43, .ref pg44, .ref pg45, .int 0, .int 0, .int 0, .int 0, .int 0, .long 0, .int 0, .int 0, .int 0, .int 0, .int 0, .int (-1), .int 0, .ref pg46, .ref pg47, .ref pg48, .ref pg49, .ref pg50, .int 0, .int 0, .ref pg51, .ref pg52, .ref pg53, .ref pg54, .ref pg55, .ref pg56, .ref pg57, .ref pg58, .int 0, .int 0, .int 0, .int 0, .ref pg59, .ref pg60, .int 0, .ref pg61, .ref pg62, .ref pg63, .ref pg64, .ref pg65, .ref pg66])), (ph1, .inl (K 0, 1000, .inl (upd (upd f6 18 ((px72 >>> (8 &&& 31)) &&& 255)) 19 ((px72 >>> (0 &&& 31)) &&& 255))))]) B inlX12 tyX12_ok nmX12 hP hD hS 0 rfl rfl 34 rfl mfl_X12_378 rfl rfl rfl rfl rfl rfl dX12_feed_118 (fun H locs hP hD hS => ?_)
  refine lv_aload_n hx hb dX12_feed_121 rfl (lv_at hl 2 rfl) ?_
  refine uGet (ci := 12) (C := RX12) (T := TX12) (N := 99) (v := .int 20) B inlX12 hP 0 rfl rfl 34 rfl mfl_X12_378 rfl rfl dX12_feed_122 ?_
  exact uRi () B rfl (uSub hP [] rfl) (hD.sub [] rfl rfl) hS dX12_feed_125
def qkX7_clear_136 (ph0 : Nat) (ph1 : Nat) (pg2 : Nat) (pg3 : Nat) (pg4 : Nat) (pg5 : Nat) (pg6 : Nat) (pg7 : Nat) (pg8 : Nat) (pg9 : Nat) (pg10 : Nat) (pg11 : Nat) (pf12 : Nat → Int32) : ((Nat → Int32)) → Prop := (fun (u : (Nat → Int32)) => True)
def vkX7_clear_136 (K : Nat → ClassId) (ph0 : Nat) (ph1 : Nat) (pg2 : Nat) (pg3 : Nat) (pg4 : Nat) (pg5 : Nat) (pg6 : Nat) (pg7 : Nat) (pg8 : Nat) (pg9 : Nat) (pg10 : Nat) (pg11 : Nat) (pf12 : Nat → Int32) : ((Nat → Int32)) → va_W := (fun (u : (Nat → Int32)) => [(ph0, .inr (7, [.ref pg2, .ref pg3, .ref pg4, .ref ph1, .ref pg5, .ref pg6, .ref pg7, .ref pg8, .ref pg9, .ref pg10, .ref pg11, .int 0, .int 0, .int 0, .int 2, .int 1])), (ph1, .inl (K 0, 10, .inl u))])
set_option maxHeartbeats 4000000 in
set_option maxRecDepth 100000 in
theorem kX7_clear_136 (l : Launch) (D : va_G) (K : Nat → ClassId) (sz : Nat) (ph0 : Nat) (ph1 : Nat) (pg2 : Nat) (pg3 : Nat) (pg4 : Nat) (pg5 : Nat) (pg6 : Nat) (pg7 : Nat) (pg8 : Nat) (pg9 : Nat) (pg10 : Nat) (pg11 : Nat) (pf12 : Nat → Int32) : uMv l yX7_clear cX7_clear 2 { frames := 0, cells := 0, slots := 0, locals := 0 } [.ref ph0] D K [(ph0, .inr (7, [.ref pg2, .ref pg3, .ref pg4, .ref ph1, .ref pg5, .ref pg6, .ref pg7, .ref pg8, .ref pg9, .ref pg10, .ref pg11, .int 0, .int 0, .int 0, .int 2, .int 1])), (ph1, .inl (K 0, 10, .inl pf12))] sz (qkX7_clear_136 ph0 ph1 pg2 pg3 pg4 pg5 pg6 pg7 pg8 pg9 pg10 pg11 pf12) (vkX7_clear_136 K ph0 ph1 pg2 pg3 pg4 pg5 pg6 pg7 pg8 pg9 pg10 pg11 pf12) := by
  refine uMet (Qc := uQv D (qkX7_clear_136 ph0 ph1 pg2 pg3 pg4 pg5 pg6 pg7 pg8 pg9 pg10 pg11 pf12) (vkX7_clear_136 K ph0 ph1 pg2 pg3 pg4 pg5 pg6 pg7 pg8 pg9 pg10 pg11 pf12)) (ret := none) (by decide) (Nat.le_of_ble_eq_true rfl) ?_
  intro p e s m below meth c A ls hAe hsz B hP hD hS hl
  have hx := B.1
  have hb := B.2.1
  have hl : lv_has ls 2 [(0, .ref ph0)] := hl
  refine lv_aload_n hx hb dX7_clear_0 rfl (lv_at hl 0 rfl) ?_
  refine lv_iconst (v := 0) hx hb dX7_clear_1 (by decide) ?_
  refine uPut (ci := 7) (C := RX7) (T := TX7) (N := 16) (ws' := [(ph0, .inr (7, [.ref pg2, .ref pg3, .ref pg4, .ref ph1, .ref pg5, .ref pg6, .ref pg7, .ref pg8, .ref pg9, .ref pg10, .ref pg11, .int 0, .int 0, .int 0, .int 2, .int 1])), (ph1, .inl (K 0, 10, .inl pf12))]) B inlX7 tyX7_ok nmX7 hP hD hS 0 rfl rfl 11 rfl mfl_X7_47 rfl rfl rfl rfl rfl rfl dX7_clear_2 (fun H locs hP hD hS => ?_)
  refine lv_aload_n hx hb dX7_clear_5 rfl (lv_at hl 0 rfl) ?_
  refine lv_iconst (v := 0) hx hb dX7_clear_6 (by decide) ?_
  refine lv_pc (q := 7) rfl ?_
  refine uPut (ci := 7) (C := RX7) (T := TX7) (N := 16) (ws' := [(ph0, .inr (7, [.ref pg2, .ref pg3, .ref pg4, .ref ph1, .ref pg5, .ref pg6, .ref pg7, .ref pg8, .ref pg9, .ref pg10, .ref pg11, .int 0, .int 0, .int 0, .int 2, .int 1])), (ph1, .inl (K 0, 10, .inl pf12))]) B inlX7 tyX7_ok nmX7 hP hD hS 0 rfl rfl 12 rfl mfl_X7_51 rfl rfl rfl rfl rfl rfl dX7_clear_7 (fun H locs hP hD hS => ?_)
  refine lv_aload_n hx hb dX7_clear_10 rfl (lv_at hl 0 rfl) ?_
  refine lv_iconst (v := 0) hx hb dX7_clear_11 (by decide) ?_
  refine uPut (ci := 7) (C := RX7) (T := TX7) (N := 16) (ws' := [(ph0, .inr (7, [.ref pg2, .ref pg3, .ref pg4, .ref ph1, .ref pg5, .ref pg6, .ref pg7, .ref pg8, .ref pg9, .ref pg10, .ref pg11, .int 0, .int 0, .int 0, .int 2, .int 1])), (ph1, .inl (K 0, 10, .inl pf12))]) B inlX7 tyX7_ok nmX7 hP hD hS 0 rfl rfl 13 rfl mfl_X7_54 rfl rfl rfl rfl rfl rfl dX7_clear_12 (fun H locs hP hD hS => ?_)
  refine lv_aload_n hx hb dX7_clear_15 rfl (lv_at hl 0 rfl) ?_
  refine lv_iconst (v := 2) hx hb dX7_clear_16 (by decide) ?_
  refine lv_pc (q := 17) rfl ?_
  refine uPut (ci := 7) (C := RX7) (T := TX7) (N := 16) (ws' := [(ph0, .inr (7, [.ref pg2, .ref pg3, .ref pg4, .ref ph1, .ref pg5, .ref pg6, .ref pg7, .ref pg8, .ref pg9, .ref pg10, .ref pg11, .int 0, .int 0, .int 0, .int 2, .int 1])), (ph1, .inl (K 0, 10, .inl pf12))]) B inlX7 tyX7_ok nmX7 hP hD hS 0 rfl rfl 14 rfl mfl_X7_57 rfl rfl rfl rfl rfl rfl dX7_clear_17 (fun H locs hP hD hS => ?_)
  refine lv_aload_n hx hb dX7_clear_20 rfl (lv_at hl 0 rfl) ?_
  refine lv_iconst (v := 1) hx hb dX7_clear_21 (by decide) ?_
  refine uPut (ci := 7) (C := RX7) (T := TX7) (N := 16) (ws' := [(ph0, .inr (7, [.ref pg2, .ref pg3, .ref pg4, .ref ph1, .ref pg5, .ref pg6, .ref pg7, .ref pg8, .ref pg9, .ref pg10, .ref pg11, .int 0, .int 0, .int 0, .int 2, .int 1])), (ph1, .inl (K 0, 10, .inl pf12))]) B inlX7 tyX7_ok nmX7 hP hD hS 0 rfl rfl 15 rfl mfl_X7_60 rfl rfl rfl rfl rfl rfl dX7_clear_22 (fun H locs hP hD hS => ?_)
  refine lv_iconst (v := 0) hx hb dX7_clear_25 (by decide) ?_
  refine lv_istore_n (lv' := [(1, .int 0), (0, .ref ph0)]) hx hb dX7_clear_26 rfl hl (by decide) rfl (fun ls hl => ?_)
  refine lv_pc (q := 27) rfl ?_
  refine lv_iload_n hx hb dX7_clear_27 rfl (lv_at hl 0 rfl) ?_
  refine lv_bipush (v := 10) hx hb dX7_clear_28 (by decide) ?_
  refine lv_icmp_ge (tgt := 46) hx hb dX7_clear_30 (by decide) (fun h9 => absurd h9 (by decide)) (fun _ => ?_)
  refine lv_aload_n hx hb dX7_clear_33 rfl (lv_at hl 1 rfl) ?_
  refine uGet (ci := 7) (C := RX7) (T := TX7) (N := 16) (v := .ref ph1) B inlX7 hP 0 rfl rfl 3 rfl mfl_X7_22 rfl rfl dX7_clear_34 ?_
  refine lv_iload_n hx hb dX7_clear_37 rfl (lv_at hl 0 rfl) ?_
  refine lv_pc (q := 38) rfl ?_
  refine lv_iload_n hx hb dX7_clear_38 rfl (lv_at hl 0 rfl) ?_
  refine uIast (i := 0) (j := 0) (ws' := [(ph0, .inr (7, [.ref pg2, .ref pg3, .ref pg4, .ref ph1, .ref pg5, .ref pg6, .ref pg7, .ref pg8, .ref pg9, .ref pg10, .ref pg11, .int 0, .int 0, .int 0, .int 2, .int 1])), (ph1, .inl (K 0, 10, .inl (upd pf12 0 0)))]) B hP hD hS 1 rfl (by decide) rfl rfl dX7_clear_39 (fun H locs hP hD hS => ?_)
  refine lv_iinc (v := 1) (lv' := [(1, .int 1), (0, .ref ph0)]) hx hb dX7_clear_40 hl (k := 0) rfl (by decide) (by decide) rfl (fun ls hl => ?_)
  refine lv_goto (tgt := 27) hx hb dX7_clear_43 (by decide) ?_
  refine lv_iload_n hx hb dX7_clear_27 rfl (lv_at hl 0 rfl) ?_
  refine lv_bipush (v := 10) hx hb dX7_clear_28 (by decide) ?_
  refine lv_pc (q := 30) rfl ?_
  refine lv_icmp_ge (tgt := 46) hx hb dX7_clear_30 (by decide) (fun h9 => absurd h9 (by decide)) (fun _ => ?_)
  refine lv_aload_n hx hb dX7_clear_33 rfl (lv_at hl 1 rfl) ?_
  refine uGet (ci := 7) (C := RX7) (T := TX7) (N := 16) (v := .ref ph1) B inlX7 hP 0 rfl rfl 3 rfl mfl_X7_22 rfl rfl dX7_clear_34 ?_
  refine lv_iload_n hx hb dX7_clear_37 rfl (lv_at hl 0 rfl) ?_
  refine lv_iload_n hx hb dX7_clear_38 rfl (lv_at hl 0 rfl) ?_
  refine uIast (i := 1) (j := 1) (ws' := [(ph0, .inr (7, [.ref pg2, .ref pg3, .ref pg4, .ref ph1, .ref pg5, .ref pg6, .ref pg7, .ref pg8, .ref pg9, .ref pg10, .ref pg11, .int 0, .int 0, .int 0, .int 2, .int 1])), (ph1, .inl (K 0, 10, .inl (upd (upd pf12 0 0) 1 1)))]) B hP hD hS 1 rfl (by decide) rfl rfl dX7_clear_39 (fun H locs hP hD hS => ?_)
  refine lv_pc (q := 40) rfl ?_
  refine lv_iinc (v := 2) (lv' := [(1, .int 2), (0, .ref ph0)]) hx hb dX7_clear_40 hl (k := 0) rfl (by decide) (by decide) rfl (fun ls hl => ?_)
  refine lv_goto (tgt := 27) hx hb dX7_clear_43 (by decide) ?_
  refine lv_iload_n hx hb dX7_clear_27 rfl (lv_at hl 0 rfl) ?_
  refine lv_bipush (v := 10) hx hb dX7_clear_28 (by decide) ?_
  refine lv_icmp_ge (tgt := 46) hx hb dX7_clear_30 (by decide) (fun h9 => absurd h9 (by decide)) (fun _ => ?_)
  refine lv_aload_n hx hb dX7_clear_33 rfl (lv_at hl 1 rfl) ?_
  refine lv_pc (q := 34) rfl ?_
  refine uGet (ci := 7) (C := RX7) (T := TX7) (N := 16) (v := .ref ph1) B inlX7 hP 0 rfl rfl 3 rfl mfl_X7_22 rfl rfl dX7_clear_34 ?_
  refine lv_iload_n hx hb dX7_clear_37 rfl (lv_at hl 0 rfl) ?_
  refine lv_iload_n hx hb dX7_clear_38 rfl (lv_at hl 0 rfl) ?_
  refine uIast (i := 2) (j := 2) (ws' := [(ph0, .inr (7, [.ref pg2, .ref pg3, .ref pg4, .ref ph1, .ref pg5, .ref pg6, .ref pg7, .ref pg8, .ref pg9, .ref pg10, .ref pg11, .int 0, .int 0, .int 0, .int 2, .int 1])), (ph1, .inl (K 0, 10, .inl (upd (upd (upd pf12 0 0) 1 1) 2 2)))]) B hP hD hS 1 rfl (by decide) rfl rfl dX7_clear_39 (fun H locs hP hD hS => ?_)
  refine lv_iinc (v := 3) (lv' := [(1, .int 3), (0, .ref ph0)]) hx hb dX7_clear_40 hl (k := 0) rfl (by decide) (by decide) rfl (fun ls hl => ?_)
  refine lv_goto (tgt := 27) hx hb dX7_clear_43 (by decide) ?_
  refine lv_pc (q := 27) rfl ?_
  refine lv_iload_n hx hb dX7_clear_27 rfl (lv_at hl 0 rfl) ?_
  refine lv_bipush (v := 10) hx hb dX7_clear_28 (by decide) ?_
  refine lv_icmp_ge (tgt := 46) hx hb dX7_clear_30 (by decide) (fun h9 => absurd h9 (by decide)) (fun _ => ?_)
  refine lv_aload_n hx hb dX7_clear_33 rfl (lv_at hl 1 rfl) ?_
  refine uGet (ci := 7) (C := RX7) (T := TX7) (N := 16) (v := .ref ph1) B inlX7 hP 0 rfl rfl 3 rfl mfl_X7_22 rfl rfl dX7_clear_34 ?_
  refine lv_iload_n hx hb dX7_clear_37 rfl (lv_at hl 0 rfl) ?_
  refine lv_pc (q := 38) rfl ?_
  refine lv_iload_n hx hb dX7_clear_38 rfl (lv_at hl 0 rfl) ?_
  refine uIast (i := 3) (j := 3) (ws' := [(ph0, .inr (7, [.ref pg2, .ref pg3, .ref pg4, .ref ph1, .ref pg5, .ref pg6, .ref pg7, .ref pg8, .ref pg9, .ref pg10, .ref pg11, .int 0, .int 0, .int 0, .int 2, .int 1])), (ph1, .inl (K 0, 10, .inl (upd (upd (upd (upd pf12 0 0) 1 1) 2 2) 3 3)))]) B hP hD hS 1 rfl (by decide) rfl rfl dX7_clear_39 (fun H locs hP hD hS => ?_)
  refine lv_iinc (v := 4) (lv' := [(1, .int 4), (0, .ref ph0)]) hx hb dX7_clear_40 hl (k := 0) rfl (by decide) (by decide) rfl (fun ls hl => ?_)
  refine lv_goto (tgt := 27) hx hb dX7_clear_43 (by decide) ?_
  refine lv_iload_n hx hb dX7_clear_27 rfl (lv_at hl 0 rfl) ?_
  refine lv_bipush (v := 10) hx hb dX7_clear_28 (by decide) ?_
  refine lv_pc (q := 30) rfl ?_
  refine lv_icmp_ge (tgt := 46) hx hb dX7_clear_30 (by decide) (fun h9 => absurd h9 (by decide)) (fun _ => ?_)
  refine lv_aload_n hx hb dX7_clear_33 rfl (lv_at hl 1 rfl) ?_
  refine uGet (ci := 7) (C := RX7) (T := TX7) (N := 16) (v := .ref ph1) B inlX7 hP 0 rfl rfl 3 rfl mfl_X7_22 rfl rfl dX7_clear_34 ?_
  refine lv_iload_n hx hb dX7_clear_37 rfl (lv_at hl 0 rfl) ?_
  refine lv_iload_n hx hb dX7_clear_38 rfl (lv_at hl 0 rfl) ?_
  refine uIast (i := 4) (j := 4) (ws' := [(ph0, .inr (7, [.ref pg2, .ref pg3, .ref pg4, .ref ph1, .ref pg5, .ref pg6, .ref pg7, .ref pg8, .ref pg9, .ref pg10, .ref pg11, .int 0, .int 0, .int 0, .int 2, .int 1])), (ph1, .inl (K 0, 10, .inl (upd (upd (upd (upd (upd pf12 0 0) 1 1) 2 2) 3 3) 4 4)))]) B hP hD hS 1 rfl (by decide) rfl rfl dX7_clear_39 (fun H locs hP hD hS => ?_)
  refine lv_pc (q := 40) rfl ?_
  refine lv_iinc (v := 5) (lv' := [(1, .int 5), (0, .ref ph0)]) hx hb dX7_clear_40 hl (k := 0) rfl (by decide) (by decide) rfl (fun ls hl => ?_)
  refine lv_goto (tgt := 27) hx hb dX7_clear_43 (by decide) ?_
  refine lv_iload_n hx hb dX7_clear_27 rfl (lv_at hl 0 rfl) ?_
  refine lv_bipush (v := 10) hx hb dX7_clear_28 (by decide) ?_
  refine lv_icmp_ge (tgt := 46) hx hb dX7_clear_30 (by decide) (fun h9 => absurd h9 (by decide)) (fun _ => ?_)
  refine lv_aload_n hx hb dX7_clear_33 rfl (lv_at hl 1 rfl) ?_
  refine lv_pc (q := 34) rfl ?_
  refine uGet (ci := 7) (C := RX7) (T := TX7) (N := 16) (v := .ref ph1) B inlX7 hP 0 rfl rfl 3 rfl mfl_X7_22 rfl rfl dX7_clear_34 ?_
  refine lv_iload_n hx hb dX7_clear_37 rfl (lv_at hl 0 rfl) ?_
  refine lv_iload_n hx hb dX7_clear_38 rfl (lv_at hl 0 rfl) ?_
  refine uIast (i := 5) (j := 5) (ws' := [(ph0, .inr (7, [.ref pg2, .ref pg3, .ref pg4, .ref ph1, .ref pg5, .ref pg6, .ref pg7, .ref pg8, .ref pg9, .ref pg10, .ref pg11, .int 0, .int 0, .int 0, .int 2, .int 1])), (ph1, .inl (K 0, 10, .inl (upd (upd (upd (upd (upd (upd pf12 0 0) 1 1) 2 2) 3 3) 4 4) 5 5)))]) B hP hD hS 1 rfl (by decide) rfl rfl dX7_clear_39 (fun H locs hP hD hS => ?_)
  refine lv_iinc (v := 6) (lv' := [(1, .int 6), (0, .ref ph0)]) hx hb dX7_clear_40 hl (k := 0) rfl (by decide) (by decide) rfl (fun ls hl => ?_)
  refine lv_goto (tgt := 27) hx hb dX7_clear_43 (by decide) ?_
  refine lv_pc (q := 27) rfl ?_
  refine lv_iload_n hx hb dX7_clear_27 rfl (lv_at hl 0 rfl) ?_
  refine lv_bipush (v := 10) hx hb dX7_clear_28 (by decide) ?_
  refine lv_icmp_ge (tgt := 46) hx hb dX7_clear_30 (by decide) (fun h9 => absurd h9 (by decide)) (fun _ => ?_)
  refine lv_aload_n hx hb dX7_clear_33 rfl (lv_at hl 1 rfl) ?_
  refine uGet (ci := 7) (C := RX7) (T := TX7) (N := 16) (v := .ref ph1) B inlX7 hP 0 rfl rfl 3 rfl mfl_X7_22 rfl rfl dX7_clear_34 ?_
  refine lv_iload_n hx hb dX7_clear_37 rfl (lv_at hl 0 rfl) ?_
  refine lv_pc (q := 38) rfl ?_
  refine lv_iload_n hx hb dX7_clear_38 rfl (lv_at hl 0 rfl) ?_
  refine uIast (i := 6) (j := 6) (ws' := [(ph0, .inr (7, [.ref pg2, .ref pg3, .ref pg4, .ref ph1, .ref pg5, .ref pg6, .ref pg7, .ref pg8, .ref pg9, .ref pg10, .ref pg11, .int 0, .int 0, .int 0, .int 2, .int 1])), (ph1, .inl (K 0, 10, .inl (upd (upd (upd (upd (upd (upd (upd pf12 0 0) 1 1) 2 2) 3 3) 4 4) 5 5) 6 6)))]) B hP hD hS 1 rfl (by decide) rfl rfl dX7_clear_39 (fun H locs hP hD hS => ?_)
  refine lv_iinc (v := 7) (lv' := [(1, .int 7), (0, .ref ph0)]) hx hb dX7_clear_40 hl (k := 0) rfl (by decide) (by decide) rfl (fun ls hl => ?_)
  refine lv_goto (tgt := 27) hx hb dX7_clear_43 (by decide) ?_
  refine lv_iload_n hx hb dX7_clear_27 rfl (lv_at hl 0 rfl) ?_
  refine lv_bipush (v := 10) hx hb dX7_clear_28 (by decide) ?_
  refine lv_pc (q := 30) rfl ?_
  refine lv_icmp_ge (tgt := 46) hx hb dX7_clear_30 (by decide) (fun h9 => absurd h9 (by decide)) (fun _ => ?_)
  refine lv_aload_n hx hb dX7_clear_33 rfl (lv_at hl 1 rfl) ?_
  refine uGet (ci := 7) (C := RX7) (T := TX7) (N := 16) (v := .ref ph1) B inlX7 hP 0 rfl rfl 3 rfl mfl_X7_22 rfl rfl dX7_clear_34 ?_
  refine lv_iload_n hx hb dX7_clear_37 rfl (lv_at hl 0 rfl) ?_
  refine lv_iload_n hx hb dX7_clear_38 rfl (lv_at hl 0 rfl) ?_
  refine uIast (i := 7) (j := 7) (ws' := [(ph0, .inr (7, [.ref pg2, .ref pg3, .ref pg4, .ref ph1, .ref pg5, .ref pg6, .ref pg7, .ref pg8, .ref pg9, .ref pg10, .ref pg11, .int 0, .int 0, .int 0, .int 2, .int 1])), (ph1, .inl (K 0, 10, .inl (upd (upd (upd (upd (upd (upd (upd (upd pf12 0 0) 1 1) 2 2) 3 3) 4 4) 5 5) 6 6) 7 7)))]) B hP hD hS 1 rfl (by decide) rfl rfl dX7_clear_39 (fun H locs hP hD hS => ?_)
  refine lv_pc (q := 40) rfl ?_
  refine lv_iinc (v := 8) (lv' := [(1, .int 8), (0, .ref ph0)]) hx hb dX7_clear_40 hl (k := 0) rfl (by decide) (by decide) rfl (fun ls hl => ?_)
  refine lv_goto (tgt := 27) hx hb dX7_clear_43 (by decide) ?_
  refine lv_iload_n hx hb dX7_clear_27 rfl (lv_at hl 0 rfl) ?_
  refine lv_bipush (v := 10) hx hb dX7_clear_28 (by decide) ?_
  refine lv_icmp_ge (tgt := 46) hx hb dX7_clear_30 (by decide) (fun h9 => absurd h9 (by decide)) (fun _ => ?_)
  refine lv_aload_n hx hb dX7_clear_33 rfl (lv_at hl 1 rfl) ?_
  refine lv_pc (q := 34) rfl ?_
  refine uGet (ci := 7) (C := RX7) (T := TX7) (N := 16) (v := .ref ph1) B inlX7 hP 0 rfl rfl 3 rfl mfl_X7_22 rfl rfl dX7_clear_34 ?_
  refine lv_iload_n hx hb dX7_clear_37 rfl (lv_at hl 0 rfl) ?_
  refine lv_iload_n hx hb dX7_clear_38 rfl (lv_at hl 0 rfl) ?_
  refine uIast (i := 8) (j := 8) (ws' := [(ph0, .inr (7, [.ref pg2, .ref pg3, .ref pg4, .ref ph1, .ref pg5, .ref pg6, .ref pg7, .ref pg8, .ref pg9, .ref pg10, .ref pg11, .int 0, .int 0, .int 0, .int 2, .int 1])), (ph1, .inl (K 0, 10, .inl (upd (upd (upd (upd (upd (upd (upd (upd (upd pf12 0 0) 1 1) 2 2) 3 3) 4 4) 5 5) 6 6) 7 7) 8 8)))]) B hP hD hS 1 rfl (by decide) rfl rfl dX7_clear_39 (fun H locs hP hD hS => ?_)
  refine lv_iinc (v := 9) (lv' := [(1, .int 9), (0, .ref ph0)]) hx hb dX7_clear_40 hl (k := 0) rfl (by decide) (by decide) rfl (fun ls hl => ?_)
  refine lv_goto (tgt := 27) hx hb dX7_clear_43 (by decide) ?_
  refine lv_pc (q := 27) rfl ?_
  refine lv_iload_n hx hb dX7_clear_27 rfl (lv_at hl 0 rfl) ?_
  refine lv_bipush (v := 10) hx hb dX7_clear_28 (by decide) ?_
  refine lv_icmp_ge (tgt := 46) hx hb dX7_clear_30 (by decide) (fun h9 => absurd h9 (by decide)) (fun _ => ?_)
  refine lv_aload_n hx hb dX7_clear_33 rfl (lv_at hl 1 rfl) ?_
  refine uGet (ci := 7) (C := RX7) (T := TX7) (N := 16) (v := .ref ph1) B inlX7 hP 0 rfl rfl 3 rfl mfl_X7_22 rfl rfl dX7_clear_34 ?_
  refine lv_iload_n hx hb dX7_clear_37 rfl (lv_at hl 0 rfl) ?_
  refine lv_pc (q := 38) rfl ?_
  refine lv_iload_n hx hb dX7_clear_38 rfl (lv_at hl 0 rfl) ?_
  refine uIast (i := 9) (j := 9) (ws' := [(ph0, .inr (7, [.ref pg2, .ref pg3, .ref pg4, .ref ph1, .ref pg5, .ref pg6, .ref pg7, .ref pg8, .ref pg9, .ref pg10, .ref pg11, .int 0, .int 0, .int 0, .int 2, .int 1])), (ph1, .inl (K 0, 10, .inl (upd (upd (upd (upd (upd (upd (upd (upd (upd (upd pf12 0 0) 1 1) 2 2) 3 3) 4 4) 5 5) 6 6) 7 7) 8 8) 9 9)))]) B hP hD hS 1 rfl (by decide) rfl rfl dX7_clear_39 (fun H locs hP hD hS => ?_)
  refine lv_iinc (v := 10) (lv' := [(1, .int 10), (0, .ref ph0)]) hx hb dX7_clear_40 hl (k := 0) rfl (by decide) (by decide) rfl (fun ls hl => ?_)
  refine lv_goto (tgt := 27) hx hb dX7_clear_43 (by decide) ?_
  refine lv_iload_n hx hb dX7_clear_27 rfl (lv_at hl 0 rfl) ?_
  refine lv_bipush (v := 10) hx hb dX7_clear_28 (by decide) ?_
  refine lv_pc (q := 30) rfl ?_
  refine lv_icmp_ge (tgt := 46) hx hb dX7_clear_30 (by decide) (fun _ => ?_) (fun h9 => absurd (by decide) h9)
  exact uRv (upd (upd (upd (upd (upd (upd (upd (upd (upd (upd pf12 0 0) 1 1) 2 2) 3 3) 4 4) 5 5) 6 6) 7 7) 8 8) 9 9) B trivial (uSub hP [0, 1] rfl) (hD.sub [0, 1] rfl rfl) hS dX7_clear_46
def qkX10_advance_137 (ph0 : Nat) (pg1 : Nat) (pg2 : Nat) : Unit → Prop := (fun (u : Unit) => True)
def vkX10_advance_137 (K : Nat → ClassId) (ph0 : Nat) (pg1 : Nat) (pg2 : Nat) : (Unit) → va_W := (fun (u : Unit) => [(ph0, .inr (10, [.ref pg1, .ref pg2, .int 0, .int 0, .int 0, .int 0, .int 0, .int 0, .long 0, .int (-1)]))])
set_option maxHeartbeats 4000000 in
set_option maxRecDepth 100000 in
theorem kX10_advance_137 (l : Launch) (D : va_G) (K : Nat → ClassId) (sz : Nat) (ph0 : Nat) (pg1 : Nat) (pg2 : Nat) : uMv l yX10_advance cX10_advance 1 { frames := 0, cells := 0, slots := 0, locals := 0 } [.ref ph0] D K [(ph0, .inr (10, [.ref pg1, .ref pg2, .int 0, .int 0, .int 0, .int 0, .int 0, .int 0, .long 0, .int (-1)]))] sz (qkX10_advance_137 ph0 pg1 pg2) (vkX10_advance_137 K ph0 pg1 pg2) := by
  refine uMet (Qc := uQv D (qkX10_advance_137 ph0 pg1 pg2) (vkX10_advance_137 K ph0 pg1 pg2)) (ret := none) (by decide) (Nat.le_of_ble_eq_true rfl) ?_
  intro p e s m below meth c A ls hAe hsz B hP hD hS hl
  have hx := B.1
  have hb := B.2.1
  have hl : lv_has ls 1 [(0, .ref ph0)] := hl
  refine lv_aload_n hx hb dX10_advance_0 rfl (lv_at hl 0 rfl) ?_
  refine uGet (ci := 10) (C := RX10) (T := TX10) (N := 10) (v := .int 0) B inlX10 hP 0 rfl rfl 4 rfl mfl_X10_26 rfl rfl dX10_advance_1 ?_
  refine lv_aload_n hx hb dX10_advance_4 rfl (lv_at hl 0 rfl) ?_
  refine uGet (ci := 10) (C := RX10) (T := TX10) (N := 10) (v := .int 0) B inlX10 hP 0 rfl rfl 3 rfl mfl_X10_23 rfl rfl dX10_advance_5 ?_
  refine lv_icmp_ge (tgt := 52) hx hb dX10_advance_8 (by decide) (fun _ => ?_) (fun h9 => absurd (by decide) h9)
  refine lv_pc (q := 52) rfl ?_
  refine lv_aload_n hx hb dX10_advance_52 rfl (lv_at hl 0 rfl) ?_
  refine lv_aload_n hx hb dX10_advance_53 rfl (lv_at hl 0 rfl) ?_
  refine uGet (ci := 10) (C := RX10) (T := TX10) (N := 10) (v := .int 0) B inlX10 hP 0 rfl rfl 4 rfl mfl_X10_26 rfl rfl dX10_advance_54 ?_
  refine uPut (ci := 10) (C := RX10) (T := TX10) (N := 10) (ws' := [(ph0, .inr (10, [.ref pg1, .ref pg2, .int 0, .int 0, .int 0, .int 0, .int 0, .int 0, .long 0, .int (-1)]))]) B inlX10 tyX10_ok nmX10 hP hD hS 0 rfl rfl 6 rfl mfl_X10_32 rfl rfl rfl rfl rfl rfl dX10_advance_57 (fun H locs hP hD hS => ?_)
  refine lv_aload_n hx hb dX10_advance_60 rfl (lv_at hl 0 rfl) ?_
  refine lv_iconst (v := (-1)) hx hb dX10_advance_61 (by decide) ?_
  refine lv_pc (q := 62) rfl ?_
  refine uPut (ci := 10) (C := RX10) (T := TX10) (N := 10) (ws' := [(ph0, .inr (10, [.ref pg1, .ref pg2, .int 0, .int 0, .int 0, .int 0, .int 0, .int 0, .long 0, .int (-1)]))]) B inlX10 tyX10_ok nmX10 hP hD hS 0 rfl rfl 9 rfl mfl_X10_42 rfl rfl rfl rfl rfl rfl dX10_advance_62 (fun H locs hP hD hS => ?_)
  refine lv_aload_n hx hb dX10_advance_65 rfl (lv_at hl 0 rfl) ?_
  refine uGet (ci := 10) (C := RX10) (T := TX10) (N := 10) (v := .int 0) B inlX10 hP 0 rfl rfl 4 rfl mfl_X10_26 rfl rfl dX10_advance_66 ?_
  refine lv_aload_n hx hb dX10_advance_69 rfl (lv_at hl 0 rfl) ?_
  refine uGet (ci := 10) (C := RX10) (T := TX10) (N := 10) (v := .int 0) B inlX10 hP 0 rfl rfl 3 rfl mfl_X10_23 rfl rfl dX10_advance_70 ?_
  refine lv_icmp_lt (tgt := 84) hx hb dX10_advance_73 (by decide) (fun h9 => absurd h9 (by decide)) (fun _ => ?_)
  refine lv_pc (q := 76) rfl ?_
  refine lv_aload_n hx hb dX10_advance_76 rfl (lv_at hl 0 rfl) ?_
  refine lv_iconst (v := 0) hx hb dX10_advance_77 (by decide) ?_
  refine uPut (ci := 10) (C := RX10) (T := TX10) (N := 10) (ws' := [(ph0, .inr (10, [.ref pg1, .ref pg2, .int 0, .int 0, .int 0, .int 0, .int 0, .int 0, .long 0, .int (-1)]))]) B inlX10 tyX10_ok nmX10 hP hD hS 0 rfl rfl 5 rfl mfl_X10_29 rfl rfl rfl rfl rfl rfl dX10_advance_78 (fun H locs hP hD hS => ?_)
  refine lv_goto (tgt := 132) hx hb dX10_advance_81 (by decide) ?_
  exact uRv () B trivial (uSub hP [0] rfl) (hD.sub [0] rfl rfl) hS dX10_advance_132
def qkX10_start_138 (ph0 : Nat) (pg1 : Nat) (pg2 : Nat) : Unit → Prop := (fun (u : Unit) => True)
def vkX10_start_138 (K : Nat → ClassId) (ph0 : Nat) (pg1 : Nat) (pg2 : Nat) : (Unit) → va_W := (fun (u : Unit) => [(ph0, .inr (10, [.ref pg1, .ref pg2, .int 0, .int 0, .int 0, .int 0, .int 0, .int 0, .long 0, .int (-1)]))])
set_option maxHeartbeats 4000000 in
set_option maxRecDepth 100000 in
theorem kX10_start_138 (l : Launch) (D : va_G) (K : Nat → ClassId) (sz : Nat) (ph0 : Nat) (pg1 : Nat) (pg2 : Nat) : uMv l yX10_start cX10_start 2 { frames := 1, cells := 0, slots := 0, locals := 20 } [.ref ph0, .int 0] D K [(ph0, .inr (10, [.ref pg1, .ref pg2, .int 0, .int 0, .int 0, .int 0, .int 0, .int 0, .long 0, .int (-1)]))] sz (qkX10_start_138 ph0 pg1 pg2) (vkX10_start_138 K ph0 pg1 pg2) := by
  refine uMet (Qc := uQv D (qkX10_start_138 ph0 pg1 pg2) (vkX10_start_138 K ph0 pg1 pg2)) (ret := none) (by decide) (Nat.le_of_ble_eq_true rfl) ?_
  intro p e s m below meth c A ls hAe hsz B hP hD hS hl
  have hx := B.1
  have hb := B.2.1
  have hl : lv_has ls 2 [(0, .ref ph0), (1, .int 0)] := hl
  refine lv_aload_n hx hb dX10_start_0 rfl (lv_at hl 0 rfl) ?_
  refine lv_iload_n hx hb dX10_start_1 rfl (lv_at hl 1 rfl) ?_
  refine uPut (ci := 10) (C := RX10) (T := TX10) (N := 10) (ws' := [(ph0, .inr (10, [.ref pg1, .ref pg2, .int 0, .int 0, .int 0, .int 0, .int 0, .int 0, .long 0, .int (-1)]))]) B inlX10 tyX10_ok nmX10 hP hD hS 0 rfl rfl 3 rfl mfl_X10_23 rfl rfl rfl rfl rfl rfl dX10_start_2 (fun H locs hP hD hS => ?_)
  refine lv_aload_n hx hb dX10_start_5 rfl (lv_at hl 0 rfl) ?_
  refine lv_iconst (v := 0) hx hb dX10_start_6 (by decide) ?_
  refine lv_pc (q := 7) rfl ?_
  refine uPut (ci := 10) (C := RX10) (T := TX10) (N := 10) (ws' := [(ph0, .inr (10, [.ref pg1, .ref pg2, .int 0, .int 0, .int 0, .int 0, .int 0, .int 0, .long 0, .int (-1)]))]) B inlX10 tyX10_ok nmX10 hP hD hS 0 rfl rfl 4 rfl mfl_X10_26 rfl rfl rfl rfl rfl rfl dX10_start_7 (fun H locs hP hD hS => ?_)
  refine lv_aload_n hx hb dX10_start_10 rfl (lv_at hl 0 rfl) ?_
  refine uVv (As := []) (rest := []) (wr := []) [(ph0, .inr (10, [.ref pg1, .ref pg2, .int 0, .int 0, .int 0, .int 0, .int 0, .int 0, .long 0, .int (-1)]))] B hl.1 hP hD hS [0] [] rfl rfl rfl (kX10_advance_137 l D K _ ph0 pg1 pg2) wd_X10_advance mml_X10_62 rfl rfl rfl rfl ⟨Nat.le_of_ble_eq_true rfl, Nat.le_of_ble_eq_true rfl⟩ (Nat.le_of_ble_eq_true rfl) ⟨Nat.le_of_ble_eq_true rfl, Nat.le_of_ble_eq_true rfl⟩ dX10_start_11 (fun u H locs hw hP hD hS => ?_)
  try dsimp only at hw
  have hP : va_P D vwCl [(ph0, .inr (10, [.ref pg1, .ref pg2, .int 0, .int 0, .int 0, .int 0, .int 0, .int 0, .long 0, .int (-1)]))] H := hP
  have hD : va_D A [(ph0, .inr (10, [.ref pg1, .ref pg2, .int 0, .int 0, .int 0, .int 0, .int 0, .int 0, .long 0, .int (-1)]))] := hD
  exact uRv () B trivial (uSub hP [0] rfl) (hD.sub [0] rfl rfl) hS dX10_start_14
def qkX5_begin_139 (ph0 : Nat) (ph1 : Nat) (ph2 : Nat) (ph3 : Nat) (pg4 : Nat) (pg5 : Nat) (pg6 : Nat) (pg7 : Nat) (pg8 : Nat) (pg9 : Nat) (pg10 : Nat) (pg11 : Nat) (pg12 : Nat) (pg13 : Nat) (pg14 : Nat) (pg15 : Nat) (pg16 : Nat) (pg17 : Nat) (pf18 : Nat → Int32) (pg19 : Nat) (pg20 : Nat) : ((Nat → Int32)) → Prop := (fun (u : (Nat → Int32)) => True)
def vkX5_begin_139 (K : Nat → ClassId) (ph0 : Nat) (ph1 : Nat) (ph2 : Nat) (ph3 : Nat) (pg4 : Nat) (pg5 : Nat) (pg6 : Nat) (pg7 : Nat) (pg8 : Nat) (pg9 : Nat) (pg10 : Nat) (pg11 : Nat) (pg12 : Nat) (pg13 : Nat) (pg14 : Nat) (pg15 : Nat) (pg16 : Nat) (pg17 : Nat) (pf18 : Nat → Int32) (pg19 : Nat) (pg20 : Nat) : ((Nat → Int32)) → va_W := (fun (u : (Nat → Int32)) => [(ph0, .inr (5, [.ref ph3, .ref pg4, .ref pg5, .ref pg6, .ref pg7, .ref ph1, .int 0, .int 0, .int 0, .int (-1)])), (ph1, .inr (7, [.ref pg8, .ref pg9, .ref pg10, .ref ph2, .ref pg11, .ref pg12, .ref pg13, .ref pg14, .ref pg15, .ref pg16, .ref pg17, .int 0, .int 0, .int 0, .int 2, .int 1])), (ph2, .inl (K 0, 10, .inl u)), (ph3, .inr (10, [.ref pg19, .ref pg20, .int 0, .int 0, .int 0, .int 0, .int 0, .int 0, .long 0, .int (-1)]))])
set_option maxHeartbeats 4000000 in
set_option maxRecDepth 100000 in
theorem kX5_begin_139 (l : Launch) (D : va_G) (K : Nat → ClassId) (sz : Nat) (ph0 : Nat) (ph1 : Nat) (ph2 : Nat) (ph3 : Nat) (pg4 : Nat) (pg5 : Nat) (pg6 : Nat) (pg7 : Nat) (pg8 : Nat) (pg9 : Nat) (pg10 : Nat) (pg11 : Nat) (pg12 : Nat) (pg13 : Nat) (pg14 : Nat) (pg15 : Nat) (pg16 : Nat) (pg17 : Nat) (pf18 : Nat → Int32) (pg19 : Nat) (pg20 : Nat) : uMv l yX5_begin cX5_begin 2 { frames := 2, cells := 0, slots := 0, locals := 41 } [.ref ph0, .int 0] D K [(ph0, .inr (5, [.ref ph3, .ref pg4, .ref pg5, .ref pg6, .ref pg7, .ref ph1, .int 0, .int 0, .int 0, .int (-1)])), (ph1, .inr (7, [.ref pg8, .ref pg9, .ref pg10, .ref ph2, .ref pg11, .ref pg12, .ref pg13, .ref pg14, .ref pg15, .ref pg16, .ref pg17, .int 0, .int 0, .int 0, .int 2, .int 1])), (ph2, .inl (K 0, 10, .inl pf18)), (ph3, .inr (10, [.ref pg19, .ref pg20, .int 0, .int 0, .int 0, .int 0, .int 0, .int 0, .long 0, .int (-1)]))] sz (qkX5_begin_139 ph0 ph1 ph2 ph3 pg4 pg5 pg6 pg7 pg8 pg9 pg10 pg11 pg12 pg13 pg14 pg15 pg16 pg17 pf18 pg19 pg20) (vkX5_begin_139 K ph0 ph1 ph2 ph3 pg4 pg5 pg6 pg7 pg8 pg9 pg10 pg11 pg12 pg13 pg14 pg15 pg16 pg17 pf18 pg19 pg20) := by
  refine uMet (Qc := uQv D (qkX5_begin_139 ph0 ph1 ph2 ph3 pg4 pg5 pg6 pg7 pg8 pg9 pg10 pg11 pg12 pg13 pg14 pg15 pg16 pg17 pf18 pg19 pg20) (vkX5_begin_139 K ph0 ph1 ph2 ph3 pg4 pg5 pg6 pg7 pg8 pg9 pg10 pg11 pg12 pg13 pg14 pg15 pg16 pg17 pf18 pg19 pg20)) (ret := none) (by decide) (Nat.le_of_ble_eq_true rfl) ?_
  intro p e s m below meth c A ls hAe hsz B hP hD hS hl
  have hx := B.1
  have hb := B.2.1
  have hl : lv_has ls 2 [(0, .ref ph0), (1, .int 0)] := hl
  refine lv_aload_n hx hb dX5_begin_0 rfl (lv_at hl 0 rfl) ?_
  refine uGet (ci := 5) (C := RX5) (T := TX5) (N := 10) (v := .ref ph1) B inlX5 hP 0 rfl rfl 5 rfl mfl_X5_46 rfl rfl dX5_begin_1 ?_
  refine uVv (As := []) (rest := []) (wr := [(ph0, .inr (5, [.ref ph3, .ref pg4, .ref pg5, .ref pg6, .ref pg7, .ref ph1, .int 0, .int 0, .int 0, .int (-1)])), (ph3, .inr (10, [.ref pg19, .ref pg20, .int 0, .int 0, .int 0, .int 0, .int 0, .int 0, .long 0, .int (-1)]))]) [(ph1, .inr (7, [.ref pg8, .ref pg9, .ref pg10, .ref ph2, .ref pg11, .ref pg12, .ref pg13, .ref pg14, .ref pg15, .ref pg16, .ref pg17, .int 0, .int 0, .int 0, .int 2, .int 1])), (ph2, .inl (K 0, 10, .inl pf18))] B hl.1 hP hD hS [1, 2] [0, 3] rfl rfl rfl (kX7_clear_136 l D K _ ph1 ph2 pg8 pg9 pg10 pg11 pg12 pg13 pg14 pg15 pg16 pg17 pf18) wd_X7_clear mml_X5_104 rfl rfl rfl rfl ⟨Nat.le_of_ble_eq_true rfl, Nat.le_of_ble_eq_true rfl⟩ (Nat.le_of_ble_eq_true rfl) ⟨Nat.le_of_ble_eq_true rfl, Nat.le_of_ble_eq_true rfl⟩ dX5_begin_4 (fun u H locs hw hP hD hS => ?_)
  obtain ⟨u2, e9⟩ : ∃ y, y = u := ⟨_, rfl⟩
  subst e9
  try dsimp only at hw
  have hP : va_P D vwCl [(ph0, .inr (5, [.ref ph3, .ref pg4, .ref pg5, .ref pg6, .ref pg7, .ref ph1, .int 0, .int 0, .int 0, .int (-1)])), (ph3, .inr (10, [.ref pg19, .ref pg20, .int 0, .int 0, .int 0, .int 0, .int 0, .int 0, .long 0, .int (-1)])), (ph1, .inr (7, [.ref pg8, .ref pg9, .ref pg10, .ref ph2, .ref pg11, .ref pg12, .ref pg13, .ref pg14, .ref pg15, .ref pg16, .ref pg17, .int 0, .int 0, .int 0, .int 2, .int 1])), (ph2, .inl (K 0, 10, .inl u2))] H := hP
  have hD : va_D A [(ph0, .inr (5, [.ref ph3, .ref pg4, .ref pg5, .ref pg6, .ref pg7, .ref ph1, .int 0, .int 0, .int 0, .int (-1)])), (ph3, .inr (10, [.ref pg19, .ref pg20, .int 0, .int 0, .int 0, .int 0, .int 0, .int 0, .long 0, .int (-1)])), (ph1, .inr (7, [.ref pg8, .ref pg9, .ref pg10, .ref ph2, .ref pg11, .ref pg12, .ref pg13, .ref pg14, .ref pg15, .ref pg16, .ref pg17, .int 0, .int 0, .int 0, .int 2, .int 1])), (ph2, .inl (K 0, 10, .inl u2))] := hD
  refine lv_aload_n hx hb dX5_begin_7 rfl (lv_at hl 0 rfl) ?_
  refine lv_iconst (v := 0) hx hb dX5_begin_8 (by decide) ?_
  refine lv_pc (q := 9) rfl ?_
  refine uPut (ci := 5) (C := RX5) (T := TX5) (N := 10) (ws' := [(ph0, .inr (5, [.ref ph3, .ref pg4, .ref pg5, .ref pg6, .ref pg7, .ref ph1, .int 0, .int 0, .int 0, .int (-1)])), (ph3, .inr (10, [.ref pg19, .ref pg20, .int 0, .int 0, .int 0, .int 0, .int 0, .int 0, .long 0, .int (-1)])), (ph1, .inr (7, [.ref pg8, .ref pg9, .ref pg10, .ref ph2, .ref pg11, .ref pg12, .ref pg13, .ref pg14, .ref pg15, .ref pg16, .ref pg17, .int 0, .int 0, .int 0, .int 2, .int 1])), (ph2, .inl (K 0, 10, .inl u2))]) B inlX5 tyX5_ok nmX5 hP hD hS 0 rfl rfl 6 rfl mfl_X5_25 rfl rfl rfl rfl rfl rfl dX5_begin_9 (fun H locs hP hD hS => ?_)
  refine lv_aload_n hx hb dX5_begin_12 rfl (lv_at hl 0 rfl) ?_
  refine lv_iconst (v := 0) hx hb dX5_begin_13 (by decide) ?_
  refine uPut (ci := 5) (C := RX5) (T := TX5) (N := 10) (ws' := [(ph0, .inr (5, [.ref ph3, .ref pg4, .ref pg5, .ref pg6, .ref pg7, .ref ph1, .int 0, .int 0, .int 0, .int (-1)])), (ph3, .inr (10, [.ref pg19, .ref pg20, .int 0, .int 0, .int 0, .int 0, .int 0, .int 0, .long 0, .int (-1)])), (ph1, .inr (7, [.ref pg8, .ref pg9, .ref pg10, .ref ph2, .ref pg11, .ref pg12, .ref pg13, .ref pg14, .ref pg15, .ref pg16, .ref pg17, .int 0, .int 0, .int 0, .int 2, .int 1])), (ph2, .inl (K 0, 10, .inl u2))]) B inlX5 tyX5_ok nmX5 hP hD hS 0 rfl rfl 7 rfl mfl_X5_29 rfl rfl rfl rfl rfl rfl dX5_begin_14 (fun H locs hP hD hS => ?_)
  refine lv_aload_n hx hb dX5_begin_17 rfl (lv_at hl 0 rfl) ?_
  refine lv_iconst (v := 0) hx hb dX5_begin_18 (by decide) ?_
  refine lv_pc (q := 19) rfl ?_
  refine uPut (ci := 5) (C := RX5) (T := TX5) (N := 10) (ws' := [(ph0, .inr (5, [.ref ph3, .ref pg4, .ref pg5, .ref pg6, .ref pg7, .ref ph1, .int 0, .int 0, .int 0, .int (-1)])), (ph3, .inr (10, [.ref pg19, .ref pg20, .int 0, .int 0, .int 0, .int 0, .int 0, .int 0, .long 0, .int (-1)])), (ph1, .inr (7, [.ref pg8, .ref pg9, .ref pg10, .ref ph2, .ref pg11, .ref pg12, .ref pg13, .ref pg14, .ref pg15, .ref pg16, .ref pg17, .int 0, .int 0, .int 0, .int 2, .int 1])), (ph2, .inl (K 0, 10, .inl u2))]) B inlX5 tyX5_ok nmX5 hP hD hS 0 rfl rfl 8 rfl mfl_X5_32 rfl rfl rfl rfl rfl rfl dX5_begin_19 (fun H locs hP hD hS => ?_)
  refine lv_aload_n hx hb dX5_begin_22 rfl (lv_at hl 0 rfl) ?_
  refine lv_iconst (v := (-1)) hx hb dX5_begin_23 (by decide) ?_
  refine uPut (ci := 5) (C := RX5) (T := TX5) (N := 10) (ws' := [(ph0, .inr (5, [.ref ph3, .ref pg4, .ref pg5, .ref pg6, .ref pg7, .ref ph1, .int 0, .int 0, .int 0, .int (-1)])), (ph3, .inr (10, [.ref pg19, .ref pg20, .int 0, .int 0, .int 0, .int 0, .int 0, .int 0, .long 0, .int (-1)])), (ph1, .inr (7, [.ref pg8, .ref pg9, .ref pg10, .ref ph2, .ref pg11, .ref pg12, .ref pg13, .ref pg14, .ref pg15, .ref pg16, .ref pg17, .int 0, .int 0, .int 0, .int 2, .int 1])), (ph2, .inl (K 0, 10, .inl u2))]) B inlX5 tyX5_ok nmX5 hP hD hS 0 rfl rfl 9 rfl mfl_X5_36 rfl rfl rfl rfl rfl rfl dX5_begin_24 (fun H locs hP hD hS => ?_)
  refine lv_aload_n hx hb dX5_begin_27 rfl (lv_at hl 0 rfl) ?_
  refine uGet (ci := 5) (C := RX5) (T := TX5) (N := 10) (v := .ref ph3) B inlX5 hP 0 rfl rfl 0 rfl mfl_X5_39 rfl rfl dX5_begin_28 ?_
  refine lv_pc (q := 31) rfl ?_
  refine lv_iload_n hx hb dX5_begin_31 rfl (lv_at hl 1 rfl) ?_
  refine uVv (As := [.int 0]) (rest := []) (wr := [(ph0, .inr (5, [.ref ph3, .ref pg4, .ref pg5, .ref pg6, .ref pg7, .ref ph1, .int 0, .int 0, .int 0, .int (-1)])), (ph1, .inr (7, [.ref pg8, .ref pg9, .ref pg10, .ref ph2, .ref pg11, .ref pg12, .ref pg13, .ref pg14, .ref pg15, .ref pg16, .ref pg17, .int 0, .int 0, .int 0, .int 2, .int 1])), (ph2, .inl (K 0, 10, .inl u2))]) [(ph3, .inr (10, [.ref pg19, .ref pg20, .int 0, .int 0, .int 0, .int 0, .int 0, .int 0, .long 0, .int (-1)]))] B hl.1 hP hD hS [1] [0, 2, 3] rfl rfl rfl (kX10_start_138 l D K _ ph3 pg19 pg20) wd_X10_start mml_X5_107 rfl rfl rfl rfl ⟨Nat.le_of_ble_eq_true rfl, Nat.le_of_ble_eq_true rfl⟩ (Nat.le_of_ble_eq_true rfl) ⟨Nat.le_of_ble_eq_true rfl, Nat.le_of_ble_eq_true rfl⟩ dX5_begin_32 (fun u H locs hw hP hD hS => ?_)
  try dsimp only at hw
  have hP : va_P D vwCl [(ph0, .inr (5, [.ref ph3, .ref pg4, .ref pg5, .ref pg6, .ref pg7, .ref ph1, .int 0, .int 0, .int 0, .int (-1)])), (ph1, .inr (7, [.ref pg8, .ref pg9, .ref pg10, .ref ph2, .ref pg11, .ref pg12, .ref pg13, .ref pg14, .ref pg15, .ref pg16, .ref pg17, .int 0, .int 0, .int 0, .int 2, .int 1])), (ph2, .inl (K 0, 10, .inl u2)), (ph3, .inr (10, [.ref pg19, .ref pg20, .int 0, .int 0, .int 0, .int 0, .int 0, .int 0, .long 0, .int (-1)]))] H := hP
  have hD : va_D A [(ph0, .inr (5, [.ref ph3, .ref pg4, .ref pg5, .ref pg6, .ref pg7, .ref ph1, .int 0, .int 0, .int 0, .int (-1)])), (ph1, .inr (7, [.ref pg8, .ref pg9, .ref pg10, .ref ph2, .ref pg11, .ref pg12, .ref pg13, .ref pg14, .ref pg15, .ref pg16, .ref pg17, .int 0, .int 0, .int 0, .int 2, .int 1])), (ph2, .inl (K 0, 10, .inl u2)), (ph3, .inr (10, [.ref pg19, .ref pg20, .int 0, .int 0, .int 0, .int 0, .int 0, .int 0, .long 0, .int (-1)]))] := hD
  exact uRv u2 B trivial (uSub hP [0, 1, 2, 3] rfl) (hD.sub [0, 1, 2, 3] rfl rfl) hS dX5_begin_35

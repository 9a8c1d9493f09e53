def qwX10_hasRoom (a_K : Nat) (v_K_size : Nat) (v_K_length : Nat) (v_K_next : Nat) (v_K_kind : Int32) (v_K_place : Int32) (v_K_number : Int32) (v_K_name : Int64) (v_K_key : Int32) (a_K_bytes : Nat) (a_K_keyNames : Nat) : Int32 → (Unit) → Prop := (fun (r : Int32) (u : Unit) => ((r = 0) ∨ (r = 1)))
def vwX10_hasRoom (K : Nat → ClassId) (a_K : Nat) (v_K_size : Nat) (v_K_length : Nat) (v_K_next : Nat) (v_K_kind : Int32) (v_K_place : Int32) (v_K_number : Int32) (v_K_name : Int64) (v_K_key : Int32) (a_K_bytes : Nat) (a_K_keyNames : Nat) : (Unit) → va_W := (fun (u : Unit) => [(a_K, .inr (10, [.ref a_K_bytes, .ref a_K_keyNames, .int (nI v_K_size), .int (nI v_K_length), .int (nI v_K_next), .int v_K_kind, .int v_K_place, .int v_K_number, .long v_K_name, .int v_K_key]))])
set_option maxHeartbeats 4000000 in
set_option maxRecDepth 100000 in
theorem wX10_hasRoom (l : Launch) (D : va_G) (K : Nat → ClassId) (sz : Nat) (a_K : Nat) (v_K_size : Nat) (v_K_length : Nat) (v_K_next : Nat) (v_K_kind : Int32) (v_K_place : Int32) (v_K_number : Int32) (v_K_name : Int64) (v_K_key : Int32) (a_K_bytes : Nat) (a_K_keyNames : Nat) (hv_K_size : v_K_size ≤ 1000) (hv_K_length : v_K_length ≤ 1000) (hv_K_next : v_K_next ≤ 1000) : uMi l yX10_hasRoom cX10_hasRoom 1 (some .boolean) { frames := 0, cells := 0, slots := 0, locals := 0 } [.ref a_K] D K [(a_K, .inr (10, [.ref a_K_bytes, .ref a_K_keyNames, .int (nI v_K_size), .int (nI v_K_length), .int (nI v_K_next), .int v_K_kind, .int v_K_place, .int v_K_number, .long v_K_name, .int v_K_key]))] sz (qwX10_hasRoom a_K v_K_size v_K_length v_K_next v_K_kind v_K_place v_K_number v_K_name v_K_key a_K_bytes a_K_keyNames) (vwX10_hasRoom K a_K v_K_size v_K_length v_K_next v_K_kind v_K_place v_K_number v_K_name v_K_key a_K_bytes a_K_keyNames) := by
  refine uMet (Qc := uQi D (qwX10_hasRoom a_K v_K_size v_K_length v_K_next v_K_kind v_K_place v_K_number v_K_name v_K_key a_K_bytes a_K_keyNames) (vwX10_hasRoom K a_K v_K_size v_K_length v_K_next v_K_kind v_K_place v_K_number v_K_name v_K_key a_K_bytes a_K_keyNames)) (ret := (some .boolean)) (by decide) (Nat.le_of_ble_eq_true rfl) ?_
  intro p e s m below meth c A ls hAe hsz B hP hD hS hl
  have hx := B.1
  have hb := B.2.1
  have hl : lv_has ls 1 [(0, .ref a_K)] := hl
  refine lv_aload_n hx hb dX10_hasRoom_0 rfl (lv_at hl 0 rfl) ?_
  refine uGet (ci := 10) (C := RX10) (T := TX10) (N := 10) (v := .int (nI v_K_size)) B inlX10 hP 0 rfl rfl 2 rfl mfl_X10_19 rfl rfl dX10_hasRoom_1 ?_
  refine lv_bipush (v := 20) hx hb dX10_hasRoom_4 (by decide) ?_
  refine lv_iadd hx hb dX10_hasRoom_6 ?_
  refine lv_fixi (y := (nI (v_K_size + 20))) (by rw [show (20 : Int32) = nI 20 from rfl, nI_add]) ?_
  refine lv_sipush (v := 1000) hx hb dX10_hasRoom_7 (by decide) ?_
  refine lv_pc (q := 10) rfl ?_
  refine lv_icmp_gt (tgt := 17) hx hb dX10_hasRoom_10 (by decide) (fun c1 => ?_) (fun c1 => ?_)
  · have k_1 : 1000 < (v_K_size + 20) := (nI_ltI (a := 1000) (b := v_K_size + 20) (by omega) (by omega)).mp c1
    refine lv_iconst (v := 0) hx hb dX10_hasRoom_17 (by decide) ?_
    exact uRz () B rfl (Or.inl rfl) (uSub hP [0] rfl) (hD.sub [0] rfl rfl) hS dX10_hasRoom_18
  have k_1 : ¬ 1000 < (v_K_size + 20) := fun h9 => c1 ((nI_ltI (a := 1000) (b := v_K_size + 20) (by omega) (by omega)).mpr h9)
  refine lv_iconst (v := 1) hx hb dX10_hasRoom_13 (by decide) ?_
  refine lv_goto (tgt := 18) hx hb dX10_hasRoom_14 (by decide) ?_
  exact uRz () B rfl (Or.inr rfl) (uSub hP [0] rfl) (hD.sub [0] rfl rfl) hS dX10_hasRoom_18
def qwX10_append (a_K : Nat) (v_K_size : Nat) (v_K_length : Nat) (v_K_next : Nat) (v_K_kind : Int32) (v_K_place : Int32) (v_K_number : Int32) (v_K_name : Int64) (v_K_key : Int32) (a_K_bytes : Nat) (f_K_bytes : Nat → Int32) (a_K_keyNames : Nat) (x0 : Int32) : (Nat × (Nat → Int32)) → Prop := (fun (u : Nat × (Nat → Int32)) => (u.1 ≤ 1000) ∧ (uRg u.2 0 255))
def vwX10_append (K : Nat → ClassId) (a_K : Nat) (v_K_size : Nat) (v_K_length : Nat) (v_K_next : Nat) (v_K_kind : Int32) (v_K_place : Int32) (v_K_number : Int32) (v_K_name : Int64) (v_K_key : Int32) (a_K_bytes : Nat) (f_K_bytes : Nat → Int32) (a_K_keyNames : Nat) (x0 : Int32) : (Nat × (Nat → Int32)) → va_W := (fun (u : Nat × (Nat → Int32)) => [(a_K, .inr (10, [.ref a_K_bytes, .ref a_K_keyNames, .int (nI ((u.1))), .int (nI v_K_length), .int (nI v_K_next), .int v_K_kind, .int v_K_place, .int v_K_number, .long v_K_name, .int v_K_key])), (a_K_bytes, .inl (K 0, 1000, .inl (u.2)))])
set_option maxHeartbeats 4000000 in
set_option maxRecDepth 100000 in
theorem wX10_append (l : Launch) (D : va_G) (K : Nat → ClassId) (sz : Nat) (a_K : Nat) (v_K_size : Nat) (v_K_length : Nat) (v_K_next : Nat) (v_K_kind : Int32) (v_K_place : Int32) (v_K_number : Int32) (v_K_name : Int64) (v_K_key : Int32) (a_K_bytes : Nat) (f_K_bytes : Nat → Int32) (a_K_keyNames : Nat) (x0 : Int32) (hv_K_size : v_K_size ≤ 1000) (hv_K_length : v_K_length ≤ 1000) (hv_K_next : v_K_next ≤ 1000) (r_K_bytes : uRg f_K_bytes 0 255) : uMv l yX10_append cX10_append 3 { frames := 0, cells := 0, slots := 0, locals := 0 } [.ref a_K, .int x0] D K [(a_K, .inr (10, [.ref a_K_bytes, .ref a_K_keyNames, .int (nI v_K_size), .int (nI v_K_length), .int (nI v_K_next), .int v_K_kind, .int v_K_place, .int v_K_number, .long v_K_name, .int v_K_key])), (a_K_bytes, .inl (K 0, 1000, .inl f_K_bytes))] sz (qwX10_append a_K v_K_size v_K_length v_K_next v_K_kind v_K_place v_K_number v_K_name v_K_key a_K_bytes f_K_bytes a_K_keyNames x0) (vwX10_append K a_K v_K_size v_K_length v_K_next v_K_kind v_K_place v_K_number v_K_name v_K_key a_K_bytes f_K_bytes a_K_keyNames x0) := by
  refine uMet (Qc := uQv D (qwX10_append a_K v_K_size v_K_length v_K_next v_K_kind v_K_place v_K_number v_K_name v_K_key a_K_bytes f_K_bytes a_K_keyNames x0) (vwX10_append K a_K v_K_size v_K_length v_K_next v_K_kind v_K_place v_K_number v_K_name v_K_key a_K_bytes f_K_bytes a_K_keyNames x0)) (ret := none) (by decide) (Nat.le_of_ble_eq_true rfl) ?_
  intro p e s m below meth c A ls hAe hsz B hP hD hS hl
  have hx := B.1
  have hb := B.2.1
  have hl : lv_has ls 3 [(0, .ref a_K), (1, .int x0)] := hl
  refine lv_bipush (v := 24) hx hb dX10_append_0 (by decide) ?_
  refine lv_istore_n (lv' := [(2, .int 24), (0, .ref a_K), (1, .int x0)]) hx hb dX10_append_2 rfl hl (by decide) rfl (fun ls hl => ?_)
  refine lv_iload_n hx hb dX10_append_3 rfl (lv_at hl 0 rfl) ?_
  refine lv_if_lt (tgt := 49) hx hb dX10_append_4 (by decide) (fun h9 => absurd h9 (by decide)) (fun _ => ?_)
  refine lv_aload_n hx hb dX10_append_7 rfl (lv_at hl 1 rfl) ?_
  refine lv_pc (q := 8) rfl ?_
  refine uGet (ci := 10) (C := RX10) (T := TX10) (N := 10) (v := .int (nI v_K_size)) B inlX10 hP 0 rfl rfl 2 rfl mfl_X10_19 rfl rfl dX10_append_8 ?_
  refine lv_sipush (v := 1000) hx hb dX10_append_11 (by decide) ?_
  refine lv_icmp_ge (tgt := 49) hx hb dX10_append_14 (by decide) (fun c1 => ?_) (fun c1 => ?_)
  · have k_1 : 1000 ≤ v_K_size := (nI_leI (a := 1000) (b := v_K_size) (by omega) (by omega)).mp c1
    exact uRv (v_K_size, f_K_bytes) B ⟨(by omega), r_K_bytes⟩ (uSub hP [0, 1] rfl) (hD.sub [0, 1] rfl rfl) hS dX10_append_49
  have k_1 : ¬ 1000 ≤ v_K_size := fun h9 => c1 ((nI_leI (a := 1000) (b := v_K_size) (by omega) (by omega)).mpr h9)
  refine lv_aload_n hx hb dX10_append_17 rfl (lv_at hl 1 rfl) ?_
  refine uGet (ci := 10) (C := RX10) (T := TX10) (N := 10) (v := .ref a_K_bytes) B inlX10 hP 0 rfl rfl 0 rfl mfl_X10_9 rfl rfl dX10_append_18 ?_
  refine lv_aload_n hx hb dX10_append_21 rfl (lv_at hl 1 rfl) ?_
  refine lv_pc (q := 22) rfl ?_
  refine uGet (ci := 10) (C := RX10) (T := TX10) (N := 10) (v := .int (nI v_K_size)) B inlX10 hP 0 rfl rfl 2 rfl mfl_X10_19 rfl rfl dX10_append_22 ?_
  refine lv_iload_n hx hb dX10_append_25 rfl (lv_at hl 2 rfl) ?_
  refine lv_iload_n hx hb dX10_append_26 rfl (lv_at hl 0 rfl) ?_
  refine lv_ishr hx hb dX10_append_27 ?_
  refine lv_sipush (v := 255) hx hb dX10_append_28 (by decide) ?_
  refine lv_iand hx hb dX10_append_31 ?_
  refine lv_pc (q := 32) rfl ?_
  refine uIast (i := (nI v_K_size)) (j := v_K_size) (ws' := [(a_K, .inr (10, [.ref a_K_bytes, .ref a_K_keyNames, .int (nI v_K_size), .int (nI v_K_length), .int (nI v_K_next), .int v_K_kind, .int v_K_place, .int v_K_number, .long v_K_name, .int v_K_key])), (a_K_bytes, .inl (K 0, 1000, .inl (upd f_K_bytes v_K_size ((x0 >>> (24 &&& 31)) &&& 255))))]) B hP hD hS 1 rfl (nI_in (by omega) (by omega)) (nI_clamp (by omega)) rfl dX10_append_32 (fun H locs hP hD hS => ?_)
  have s3 : uRg (upd f_K_bytes v_K_size ((x0 >>> (24 &&& 31)) &&& 255)) 0 255 := (uRup r_K_bytes (uAnd255 _).1 (uAnd255 _).2)
  refine lv_aload_n hx hb dX10_append_33 rfl (lv_at hl 1 rfl) ?_
  refine lv_dup hx hb dX10_append_34 rfl ?_
  refine uGet (ci := 10) (C := RX10) (T := TX10) (N := 10) (v := .int (nI v_K_size)) B inlX10 hP 0 rfl rfl 2 rfl mfl_X10_19 rfl rfl dX10_append_35 ?_
  refine lv_iconst (v := 1) hx hb dX10_append_38 (by decide) ?_
  refine lv_iadd hx hb dX10_append_39 ?_
  refine lv_fixi (y := (nI (v_K_size + 1))) (by rw [show (1 : Int32) = nI 1 from rfl, nI_add]) ?_
  refine lv_pc (q := 40) rfl ?_
  refine uPut (ci := 10) (C := RX10) (T := TX10) (N := 10) (ws' := [(a_K, .inr (10, [.ref a_K_bytes, .ref a_K_keyNames, .int (nI (v_K_size + 1)), .int (nI v_K_length), .int (nI v_K_next), .int v_K_kind, .int v_K_place, .int v_K_number, .long v_K_name, .int v_K_key])), (a_K_bytes, .inl (K 0, 1000, .inl (upd f_K_bytes v_K_size ((x0 >>> (24 &&& 31)) &&& 255))))]) B inlX10 tyX10_ok nmX10 hP hD hS 0 rfl rfl 2 rfl mfl_X10_19 rfl rfl rfl rfl rfl rfl dX10_append_40 (fun H locs hP hD hS => ?_)
  refine lv_iinc (v := 16) (lv' := [(2, .int 16), (0, .ref a_K), (1, .int x0)]) hx hb dX10_append_43 hl (k := 0) rfl (by decide) (by decide) rfl (fun ls hl => ?_)
  refine lv_goto (tgt := 3) hx hb dX10_append_46 (by decide) ?_
  refine lv_iload_n hx hb dX10_append_3 rfl (lv_at hl 0 rfl) ?_
  refine lv_if_lt (tgt := 49) hx hb dX10_append_4 (by decide) (fun h9 => absurd h9 (by decide)) (fun _ => ?_)
  refine lv_aload_n hx hb dX10_append_7 rfl (lv_at hl 1 rfl) ?_
  refine lv_pc (q := 8) rfl ?_
  refine uGet (ci := 10) (C := RX10) (T := TX10) (N := 10) (v := .int (nI (v_K_size + 1))) B inlX10 hP 0 rfl rfl 2 rfl mfl_X10_19 rfl rfl dX10_append_8 ?_
  refine lv_sipush (v := 1000) hx hb dX10_append_11 (by decide) ?_
  refine lv_icmp_ge (tgt := 49) hx hb dX10_append_14 (by decide) (fun c4 => ?_) (fun c4 => ?_)
  · have k_4 : 1000 ≤ (v_K_size + 1) := (nI_leI (a := 1000) (b := v_K_size + 1) (by omega) (by omega)).mp c4
    exact uRv (v_K_size + 1, upd f_K_bytes v_K_size ((x0 >>> (24 &&& 31)) &&& 255)) B ⟨(by omega), s3⟩ (uSub hP [0, 1] rfl) (hD.sub [0, 1] rfl rfl) hS dX10_append_49
  have k_4 : ¬ 1000 ≤ (v_K_size + 1) := fun h9 => c4 ((nI_leI (a := 1000) (b := v_K_size + 1) (by omega) (by omega)).mpr h9)
  refine lv_aload_n hx hb dX10_append_17 rfl (lv_at hl 1 rfl) ?_
  refine uGet (ci := 10) (C := RX10) (T := TX10) (N := 10) (v := .ref a_K_bytes) B inlX10 hP 0 rfl rfl 0 rfl mfl_X10_9 rfl rfl dX10_append_18 ?_
  refine lv_aload_n hx hb dX10_append_21 rfl (lv_at hl 1 rfl) ?_
  refine lv_pc (q := 22) rfl ?_
  refine uGet (ci := 10) (C := RX10) (T := TX10) (N := 10) (v := .int (nI (v_K_size + 1))) B inlX10 hP 0 rfl rfl 2 rfl mfl_X10_19 rfl rfl dX10_append_22 ?_
  refine lv_iload_n hx hb dX10_append_25 rfl (lv_at hl 2 rfl) ?_
  refine lv_iload_n hx hb dX10_append_26 rfl (lv_at hl 0 rfl) ?_
  refine lv_ishr hx hb dX10_append_27 ?_
  refine lv_sipush (v := 255) hx hb dX10_append_28 (by decide) ?_
  refine lv_iand hx hb dX10_append_31 ?_
  refine lv_pc (q := 32) rfl ?_
  refine uIast (i := (nI (v_K_size + 1))) (j := v_K_size + 1) (ws' := [(a_K, .inr (10, [.ref a_K_bytes, .ref a_K_keyNames, .int (nI (v_K_size + 1)), .int (nI v_K_length), .int (nI v_K_next), .int v_K_kind, .int v_K_place, .int v_K_number, .long v_K_name, .int v_K_key])), (a_K_bytes, .inl (K 0, 1000, .inl (upd (upd f_K_bytes v_K_size ((x0 >>> (24 &&& 31)) &&& 255)) (v_K_size + 1) ((x0 >>> (16 &&& 31)) &&& 255))))]) B hP hD hS 1 rfl (nI_in (by omega) (by omega)) (nI_clamp (by omega)) rfl dX10_append_32 (fun H locs hP hD hS => ?_)
  have s6 : uRg (upd (upd f_K_bytes v_K_size ((x0 >>> (24 &&& 31)) &&& 255)) (v_K_size + 1) ((x0 >>> (16 &&& 31)) &&& 255)) 0 255 := (uRup s3 (uAnd255 _).1 (uAnd255 _).2)
  generalize upd (upd f_K_bytes v_K_size ((x0 >>> (24 &&& 31)) &&& 255)) (v_K_size + 1) ((x0 >>> (16 &&& 31)) &&& 255) = f7 at hP hD s6
  refine lv_aload_n hx hb dX10_append_33 rfl (lv_at hl 1 rfl) ?_
  refine lv_dup hx hb dX10_append_34 rfl ?_
  refine uGet (ci := 10) (C := RX10) (T := TX10) (N := 10) (v := .int (nI (v_K_size + 1))) B inlX10 hP 0 rfl rfl 2 rfl mfl_X10_19 rfl rfl dX10_append_35 ?_
  refine lv_iconst (v := 1) hx hb dX10_append_38 (by decide) ?_
  refine lv_iadd hx hb dX10_append_39 ?_
  refine lv_fixi (y := (nI ((v_K_size + 1) + 1))) (by rw [show (1 : Int32) = nI 1 from rfl, nI_add]) ?_
  refine lv_pc (q := 40) rfl ?_
  refine uPut (ci := 10) (C := RX10) (T := TX10) (N := 10) (ws' := [(a_K, .inr (10, [.ref a_K_bytes, .ref a_K_keyNames, .int (nI ((v_K_size + 1) + 1)), .int (nI v_K_length), .int (nI v_K_next), .int v_K_kind, .int v_K_place, .int v_K_number, .long v_K_name, .int v_K_key])), (a_K_bytes, .inl (K 0, 1000, .inl f7))]) B inlX10 tyX10_ok nmX10 hP hD hS 0 rfl rfl 2 rfl mfl_X10_19 rfl rfl rfl rfl rfl rfl dX10_append_40 (fun H locs hP hD hS => ?_)
  refine lv_iinc (v := 8) (lv' := [(2, .int 8), (0, .ref a_K), (1, .int x0)]) hx hb dX10_append_43 hl (k := 0) rfl (by decide) (by decide) rfl (fun ls hl => ?_)
  refine lv_goto (tgt := 3) hx hb dX10_append_46 (by decide) ?_
  refine lv_iload_n hx hb dX10_append_3 rfl (lv_at hl 0 rfl) ?_
  refine lv_if_lt (tgt := 49) hx hb dX10_append_4 (by decide) (fun h9 => absurd h9 (by decide)) (fun _ => ?_)
  refine lv_aload_n hx hb dX10_append_7 rfl (lv_at hl 1 rfl) ?_
  refine lv_pc (q := 8) rfl ?_
  refine uGet (ci := 10) (C := RX10) (T := TX10) (N := 10) (v := .int (nI ((v_K_size + 1) + 1))) B inlX10 hP 0 rfl rfl 2 rfl mfl_X10_19 rfl rfl dX10_append_8 ?_
  refine lv_sipush (v := 1000) hx hb dX10_append_11 (by decide) ?_
  refine lv_icmp_ge (tgt := 49) hx hb dX10_append_14 (by decide) (fun c8 => ?_) (fun c8 => ?_)
  · have k_8 : 1000 ≤ ((v_K_size + 1) + 1) := (nI_leI (a := 1000) (b := (v_K_size + 1) + 1) (by omega) (by omega)).mp c8
    exact uRv ((v_K_size + 1) + 1, f7) B ⟨(by omega), s6⟩ (uSub hP [0, 1] rfl) (hD.sub [0, 1] rfl rfl) hS dX10_append_49
  have k_8 : ¬ 1000 ≤ ((v_K_size + 1) + 1) := fun h9 => c8 ((nI_leI (a := 1000) (b := (v_K_size + 1) + 1) (by omega) (by omega)).mpr h9)
  refine lv_aload_n hx hb dX10_append_17 rfl (lv_at hl 1 rfl) ?_
  refine uGet (ci := 10) (C := RX10) (T := TX10) (N := 10) (v := .ref a_K_bytes) B inlX10 hP 0 rfl rfl 0 rfl mfl_X10_9 rfl rfl dX10_append_18 ?_
  refine lv_aload_n hx hb dX10_append_21 rfl (lv_at hl 1 rfl) ?_
  refine lv_pc (q := 22) rfl ?_
  refine uGet (ci := 10) (C := RX10) (T := TX10) (N := 10) (v := .int (nI ((v_K_size + 1) + 1))) B inlX10 hP 0 rfl rfl 2 rfl mfl_X10_19 rfl rfl dX10_append_22 ?_
  refine lv_iload_n hx hb dX10_append_25 rfl (lv_at hl 2 rfl) ?_
  refine lv_iload_n hx hb dX10_append_26 rfl (lv_at hl 0 rfl) ?_
  refine lv_ishr hx hb dX10_append_27 ?_
  refine lv_sipush (v := 255) hx hb dX10_append_28 (by decide) ?_
  refine lv_iand hx hb dX10_append_31 ?_
  refine lv_pc (q := 32) rfl ?_
  refine uIast (i := (nI ((v_K_size + 1) + 1))) (j := (v_K_size + 1) + 1) (ws' := [(a_K, .inr (10, [.ref a_K_bytes, .ref a_K_keyNames, .int (nI ((v_K_size + 1) + 1)), .int (nI v_K_length), .int (nI v_K_next), .int v_K_kind, .int v_K_place, .int v_K_number, .long v_K_name, .int v_K_key])), (a_K_bytes, .inl (K 0, 1000, .inl (upd f7 ((v_K_size + 1) + 1) ((x0 >>> (8 &&& 31)) &&& 255))))]) B hP hD hS 1 rfl (nI_in (by omega) (by omega)) (nI_clamp (by omega)) rfl dX10_append_32 (fun H locs hP hD hS => ?_)
  have s10 : uRg (upd f7 ((v_K_size + 1) + 1) ((x0 >>> (8 &&& 31)) &&& 255)) 0 255 := (uRup s6 (uAnd255 _).1 (uAnd255 _).2)
  refine lv_aload_n hx hb dX10_append_33 rfl (lv_at hl 1 rfl) ?_
  refine lv_dup hx hb dX10_append_34 rfl ?_
  refine uGet (ci := 10) (C := RX10) (T := TX10) (N := 10) (v := .int (nI ((v_K_size + 1) + 1))) B inlX10 hP 0 rfl rfl 2 rfl mfl_X10_19 rfl rfl dX10_append_35 ?_
  refine lv_iconst (v := 1) hx hb dX10_append_38 (by decide) ?_
  refine lv_iadd hx hb dX10_append_39 ?_
  refine lv_fixi (y := (nI (((v_K_size + 1) + 1) + 1))) (by rw [show (1 : Int32) = nI 1 from rfl, nI_add]) ?_
  refine lv_pc (q := 40) rfl ?_
  refine uPut (ci := 10) (C := RX10) (T := TX10) (N := 10) (ws' := [(a_K, .inr (10, [.ref a_K_bytes, .ref a_K_keyNames, .int (nI (((v_K_size + 1) + 1) + 1)), .int (nI v_K_length), .int (nI v_K_next), .int v_K_kind, .int v_K_place, .int v_K_number, .long v_K_name, .int v_K_key])), (a_K_bytes, .inl (K 0, 1000, .inl (upd f7 ((v_K_size + 1) + 1) ((x0 >>> (8 &&& 31)) &&& 255))))]) B inlX10 tyX10_ok nmX10 hP hD hS 0 rfl rfl 2 rfl mfl_X10_19 rfl rfl rfl rfl rfl rfl dX10_append_40 (fun H locs hP hD hS => ?_)
  refine lv_iinc (v := 0) (lv' := [(2, .int 0), (0, .ref a_K), (1, .int x0)]) hx hb dX10_append_43 hl (k := 0) rfl (by decide) (by decide) rfl (fun ls hl => ?_)
  refine lv_goto (tgt := 3) hx hb dX10_append_46 (by decide) ?_
  refine lv_iload_n hx hb dX10_append_3 rfl (lv_at hl 0 rfl) ?_
  refine lv_if_lt (tgt := 49) hx hb dX10_append_4 (by decide) (fun h9 => absurd h9 (by decide)) (fun _ => ?_)
  refine lv_aload_n hx hb dX10_append_7 rfl (lv_at hl 1 rfl) ?_
  refine lv_pc (q := 8) rfl ?_
  refine uGet (ci := 10) (C := RX10) (T := TX10) (N := 10) (v := .int (nI (((v_K_size + 1) + 1) + 1))) B inlX10 hP 0 rfl rfl 2 rfl mfl_X10_19 rfl rfl dX10_append_8 ?_
  refine lv_sipush (v := 1000) hx hb dX10_append_11 (by decide) ?_
  refine lv_icmp_ge (tgt := 49) hx hb dX10_append_14 (by decide) (fun c11 => ?_) (fun c11 => ?_)
  · have k_11 : 1000 ≤ (((v_K_size + 1) + 1) + 1) := (nI_leI (a := 1000) (b := ((v_K_size + 1) + 1) + 1) (by omega) (by omega)).mp c11
    exact uRv (((v_K_size + 1) + 1) + 1, upd f7 ((v_K_size + 1) + 1) ((x0 >>> (8 &&& 31)) &&& 255)) B ⟨(by omega), s10⟩ (uSub hP [0, 1] rfl) (hD.sub [0, 1] rfl rfl) hS dX10_append_49
  have k_11 : ¬ 1000 ≤ (((v_K_size + 1) + 1) + 1) := fun h9 => c11 ((nI_leI (a := 1000) (b := ((v_K_size + 1) + 1) + 1) (by omega) (by omega)).mpr h9)
  refine lv_aload_n hx hb dX10_append_17 rfl (lv_at hl 1 rfl) ?_
  refine uGet (ci := 10) (C := RX10) (T := TX10) (N := 10) (v := .ref a_K_bytes) B inlX10 hP 0 rfl rfl 0 rfl mfl_X10_9 rfl rfl dX10_append_18 ?_
  refine lv_aload_n hx hb dX10_append_21 rfl (lv_at hl 1 rfl) ?_
  refine lv_pc (q := 22) rfl ?_
  refine uGet (ci := 10) (C := RX10) (T := TX10) (N := 10) (v := .int (nI (((v_K_size + 1) + 1) + 1))) B inlX10 hP 0 rfl rfl 2 rfl mfl_X10_19 rfl rfl dX10_append_22 ?_
  refine lv_iload_n hx hb dX10_append_25 rfl (lv_at hl 2 rfl) ?_
  refine lv_iload_n hx hb dX10_append_26 rfl (lv_at hl 0 rfl) ?_
  refine lv_ishr hx hb dX10_append_27 ?_
  refine lv_sipush (v := 255) hx hb dX10_append_28 (by decide) ?_
  refine lv_iand hx hb dX10_append_31 ?_
  refine lv_pc (q := 32) rfl ?_
  refine uIast (i := (nI (((v_K_size + 1) + 1) + 1))) (j := ((v_K_size + 1) + 1) + 1) (ws' := [(a_K, .inr (10, [.ref a_K_bytes, .ref a_K_keyNames, .int (nI (((v_K_size + 1) + 1) + 1)), .int (nI v_K_length), .int (nI v_K_next), .int v_K_kind, .int v_K_place, .int v_K_number, .long v_K_name, .int v_K_key])), (a_K_bytes, .inl (K 0, 1000, .inl (upd (upd f7 ((v_K_size + 1) + 1) ((x0 >>> (8 &&& 31)) &&& 255)) (((v_K_size + 1) + 1) + 1) ((x0 >>> (0 &&& 31)) &&& 255))))]) B hP hD hS 1 rfl (nI_in (by omega) (by omega)) (nI_clamp (by omega)) rfl dX10_append_32 (fun H locs hP hD hS => ?_)
  have s13 : uRg (upd (upd f7 ((v_K_size + 1) + 1) ((x0 >>> (8 &&& 31)) &&& 255)) (((v_K_size + 1) + 1) + 1) ((x0 >>> (0 &&& 31)) &&& 255)) 0 255 := (uRup s10 (uAnd255 _).1 (uAnd255 _).2)
  generalize upd (upd f7 ((v_K_size + 1) + 1) ((x0 >>> (8 &&& 31)) &&& 255)) (((v_K_size + 1) + 1) + 1) ((x0 >>> (0 &&& 31)) &&& 255) = f14 at hP hD s13
  refine lv_aload_n hx hb dX10_append_33 rfl (lv_at hl 1 rfl) ?_
  refine lv_dup hx hb dX10_append_34 rfl ?_
  refine uGet (ci := 10) (C := RX10) (T := TX10) (N := 10) (v := .int (nI (((v_K_size + 1) + 1) + 1))) B inlX10 hP 0 rfl rfl 2 rfl mfl_X10_19 rfl rfl dX10_append_35 ?_
  refine lv_iconst (v := 1) hx hb dX10_append_38 (by decide) ?_
  refine lv_iadd hx hb dX10_append_39 ?_
  refine lv_fixi (y := (nI ((((v_K_size + 1) + 1) + 1) + 1))) (by rw [show (1 : Int32) = nI 1 from rfl, nI_add]) ?_
  refine lv_pc (q := 40) rfl ?_
  refine uPut (ci := 10) (C := RX10) (T := TX10) (N := 10) (ws' := [(a_K, .inr (10, [.ref a_K_bytes, .ref a_K_keyNames, .int (nI ((((v_K_size + 1) + 1) + 1) + 1)), .int (nI v_K_length), .int (nI v_K_next), .int v_K_kind, .int v_K_place, .int v_K_number, .long v_K_name, .int v_K_key])), (a_K_bytes, .inl (K 0, 1000, .inl f14))]) B inlX10 tyX10_ok nmX10 hP hD hS 0 rfl rfl 2 rfl mfl_X10_19 rfl rfl rfl rfl rfl rfl dX10_append_40 (fun H locs hP hD hS => ?_)
  refine lv_iinc (v := (-8)) (lv' := [(2, .int (-8)), (0, .ref a_K), (1, .int x0)]) hx hb dX10_append_43 hl (k := 0) rfl (by decide) (by decide) rfl (fun ls hl => ?_)
  refine lv_goto (tgt := 3) hx hb dX10_append_46 (by decide) ?_
  refine lv_iload_n hx hb dX10_append_3 rfl (lv_at hl 0 rfl) ?_
  refine lv_if_lt (tgt := 49) hx hb dX10_append_4 (by decide) (fun _ => ?_) (fun h9 => absurd (by decide) h9)
  exact uRv ((((v_K_size + 1) + 1) + 1) + 1, f14) B ⟨(by omega), s13⟩ (uSub hP [0, 1] rfl) (hD.sub [0, 1] rfl rfl) hS dX10_append_49
def qwX10_isLetter (x0 : Int32) : Int32 → (Unit) → Prop := (fun (r : Int32) (u : Unit) => ((r = 0) ∨ (r = 1)))
def vwX10_isLetter (K : Nat → ClassId) (x0 : Int32) : (Unit) → va_W := (fun (u : Unit) => [])
set_option maxHeartbeats 4000000 in
set_option maxRecDepth 100000 in
theorem wX10_isLetter (l : Launch) (D : va_G) (K : Nat → ClassId) (sz : Nat) (x0 : Int32) : uMi l yX10_isLetter cX10_isLetter 1 (some .boolean) { frames := 0, cells := 0, slots := 0, locals := 0 } [.int x0] D K [] sz (qwX10_isLetter x0) (vwX10_isLetter K x0) := by
  refine uMet (Qc := uQi D (qwX10_isLetter x0) (vwX10_isLetter K x0)) (ret := (some .boolean)) (by decide) (Nat.le_of_ble_eq_true rfl) ?_
  intro p e s m below meth c A ls hAe hsz B hP hD hS hl
  have hx := B.1
  have hb := B.2.1
  have hl : lv_has ls 1 [(0, .int x0)] := hl
  refine lv_iload_n hx hb dX10_isLetter_0 rfl (lv_at hl 0 rfl) ?_
  refine lv_bipush (v := 97) hx hb dX10_isLetter_1 (by decide) ?_
  refine lv_icmp_lt (tgt := 16) hx hb dX10_isLetter_3 (by decide) (fun c1 => ?_) (fun c1 => ?_)
  · refine lv_iconst (v := 0) hx hb dX10_isLetter_16 (by decide) ?_
    exact uRz () B rfl (Or.inl rfl) (uSub hP [] rfl) (hD.sub [] rfl rfl) hS dX10_isLetter_17
  refine lv_iload_n hx hb dX10_isLetter_6 rfl (lv_at hl 0 rfl) ?_
  refine lv_bipush (v := 122) hx hb dX10_isLetter_7 (by decide) ?_
  refine lv_pc (q := 9) rfl ?_
  refine lv_icmp_gt (tgt := 16) hx hb dX10_isLetter_9 (by decide) (fun c2 => ?_) (fun c2 => ?_)
  · refine lv_iconst (v := 0) hx hb dX10_isLetter_16 (by decide) ?_
    exact uRz () B rfl (Or.inl rfl) (uSub hP [] rfl) (hD.sub [] rfl rfl) hS dX10_isLetter_17
  refine lv_iconst (v := 1) hx hb dX10_isLetter_12 (by decide) ?_
  refine lv_goto (tgt := 17) hx hb dX10_isLetter_13 (by decide) ?_
  exact uRz () B rfl (Or.inr rfl) (uSub hP [] rfl) (hD.sub [] rfl rfl) hS dX10_isLetter_17
def qwX10_isDigit (x0 : Int32) : Int32 → (Unit) → Prop := (fun (r : Int32) (u : Unit) => ((r = 0) ∨ (r = 1)))
def vwX10_isDigit (K : Nat → ClassId) (x0 : Int32) : (Unit) → va_W := (fun (u : Unit) => [])
set_option maxHeartbeats 4000000 in
set_option maxRecDepth 100000 in
theorem wX10_isDigit (l : Launch) (D : va_G) (K : Nat → ClassId) (sz : Nat) (x0 : Int32) : uMi l yX10_isDigit cX10_isDigit 1 (some .boolean) { frames := 0, cells := 0, slots := 0, locals := 0 } [.int x0] D K [] sz (qwX10_isDigit x0) (vwX10_isDigit K x0) := by
  refine uMet (Qc := uQi D (qwX10_isDigit x0) (vwX10_isDigit K x0)) (ret := (some .boolean)) (by decide) (Nat.le_of_ble_eq_true rfl) ?_
  intro p e s m below meth c A ls hAe hsz B hP hD hS hl
  have hx := B.1
  have hb := B.2.1
  have hl : lv_has ls 1 [(0, .int x0)] := hl
  refine lv_iload_n hx hb dX10_isDigit_0 rfl (lv_at hl 0 rfl) ?_
  refine lv_bipush (v := 48) hx hb dX10_isDigit_1 (by decide) ?_
  refine lv_icmp_lt (tgt := 16) hx hb dX10_isDigit_3 (by decide) (fun c1 => ?_) (fun c1 => ?_)
  · refine lv_iconst (v := 0) hx hb dX10_isDigit_16 (by decide) ?_
    exact uRz () B rfl (Or.inl rfl) (uSub hP [] rfl) (hD.sub [] rfl rfl) hS dX10_isDigit_17
  refine lv_iload_n hx hb dX10_isDigit_6 rfl (lv_at hl 0 rfl) ?_
  refine lv_bipush (v := 57) hx hb dX10_isDigit_7 (by decide) ?_
  refine lv_pc (q := 9) rfl ?_
  refine lv_icmp_gt (tgt := 16) hx hb dX10_isDigit_9 (by decide) (fun c2 => ?_) (fun c2 => ?_)
  · refine lv_iconst (v := 0) hx hb dX10_isDigit_16 (by decide) ?_
    exact uRz () B rfl (Or.inl rfl) (uSub hP [] rfl) (hD.sub [] rfl rfl) hS dX10_isDigit_17
  refine lv_iconst (v := 1) hx hb dX10_isDigit_12 (by decide) ?_
  refine lv_goto (tgt := 17) hx hb dX10_isDigit_13 (by decide) ?_
  exact uRz () B rfl (Or.inr rfl) (uSub hP [] rfl) (hD.sub [] rfl rfl) hS dX10_isDigit_17
def qwX10_withLetter (x0 : Int64) (x1 : Int32) : Int64 → (Unit) → Prop := (fun (r : Int64) (u : Unit) => True)
def vwX10_withLetter (K : Nat → ClassId) (x0 : Int64) (x1 : Int32) : (Unit) → va_W := (fun (u : Unit) => [])
set_option maxHeartbeats 4000000 in
set_option maxRecDepth 100000 in
theorem wX10_withLetter (l : Launch) (D : va_G) (K : Nat → ClassId) (sz : Nat) (x0 : Int64) (x1 : Int32) : uMl l yX10_withLetter cX10_withLetter 3 (some .long) { frames := 0, cells := 0, slots := 0, locals := 0 } [.long x0, .int x1] D K [] sz (qwX10_withLetter x0 x1) (vwX10_withLetter K x0 x1) := by
  refine uMet (Qc := uQl D (qwX10_withLetter x0 x1) (vwX10_withLetter K x0 x1)) (ret := (some .long)) (by decide) (Nat.le_of_ble_eq_true rfl) ?_
  intro p e s m below meth c A ls hAe hsz B hP hD hS hl
  have hx := B.1
  have hb := B.2.1
  have hl : lv_has ls 3 [(0, .long x0), (2, .int x1)] := hl
  refine lv_lload_n hx hb dX10_withLetter_0 rfl (lv_at hl 0 rfl) ?_
  refine uLdc2 B mct_X10_60 dX10_withLetter_1 ?_
  refine lv_lmul hx hb dX10_withLetter_4 ?_
  refine lv_iload_n hx hb dX10_withLetter_5 rfl (lv_at hl 1 rfl) ?_
  refine lv_bipush (v := 97) hx hb dX10_withLetter_6 (by decide) ?_
  refine lv_pc (q := 8) rfl ?_
  refine lv_isub hx hb dX10_withLetter_8 ?_
  refine lv_iconst (v := 1) hx hb dX10_withLetter_9 (by decide) ?_
  refine lv_iadd hx hb dX10_withLetter_10 ?_
  refine lv_i2l (v := (((x1 - 97) + 1).toInt64)) hx hb dX10_withLetter_11 rfl ?_
  refine lv_ladd hx hb dX10_withLetter_12 ?_
  exact uRl () B trivial (uSub hP [] rfl) (hD.sub [] rfl rfl) hS dX10_withLetter_13
def qwX10_keyOf (a_K : Nat) (v_K_size : Nat) (v_K_length : Nat) (v_K_next : Nat) (v_K_kind : Int32) (v_K_place : Int32) (v_K_number : Int32) (v_K_name : Int64) (v_K_key : Int32) (a_K_keyNames : Nat) (f_K_keyNames : Nat → Int64) (a_K_bytes : Nat) (x0 : Int64) : Int32 → (Unit) → Prop := (fun (r : Int32) (u : Unit) => True)
def vwX10_keyOf (K : Nat → ClassId) (a_K : Nat) (v_K_size : Nat) (v_K_length : Nat) (v_K_next : Nat) (v_K_kind : Int32) (v_K_place : Int32) (v_K_number : Int32) (v_K_name : Int64) (v_K_key : Int32) (a_K_keyNames : Nat) (f_K_keyNames : Nat → Int64) (a_K_bytes : Nat) (x0 : Int64) : (Unit) → va_W := (fun (u : Unit) => [(a_K, .inr (10, [.ref a_K_bytes, .ref a_K_keyNames, .int (nI v_K_size), .int (nI v_K_length), .int (nI v_K_next), .int v_K_kind, .int v_K_place, .int v_K_number, .long v_K_name, .int v_K_key])), (a_K_keyNames, .inl (K 2, 13, .inr (.inl f_K_keyNames)))])
set_option maxHeartbeats 4000000 in
set_option maxRecDepth 100000 in
theorem wX10_keyOf (l : Launch) (D : va_G) (K : Nat → ClassId) (sz : Nat) (a_K : Nat) (v_K_size : Nat) (v_K_length : Nat) (v_K_next : Nat) (v_K_kind : Int32) (v_K_place : Int32) (v_K_number : Int32) (v_K_name : Int64) (v_K_key : Int32) (a_K_keyNames : Nat) (f_K_keyNames : Nat → Int64) (a_K_bytes : Nat) (x0 : Int64) (hv_K_size : v_K_size ≤ 1000) (hv_K_length : v_K_length ≤ 1000) (hv_K_next : v_K_next ≤ 1000) : uMi l yX10_keyOf cX10_keyOf 4 (some .int) { frames := 0, cells := 0, slots := 0, locals := 0 } [.ref a_K, .long x0] D K [(a_K, .inr (10, [.ref a_K_bytes, .ref a_K_keyNames, .int (nI v_K_size), .int (nI v_K_length), .int (nI v_K_next), .int v_K_kind, .int v_K_place, .int v_K_number, .long v_K_name, .int v_K_key])), (a_K_keyNames, .inl (K 2, 13, .inr (.inl f_K_keyNames)))] sz (qwX10_keyOf a_K v_K_size v_K_length v_K_next v_K_kind v_K_place v_K_number v_K_name v_K_key a_K_keyNames f_K_keyNames a_K_bytes x0) (vwX10_keyOf K a_K v_K_size v_K_length v_K_next v_K_kind v_K_place v_K_number v_K_name v_K_key a_K_keyNames f_K_keyNames a_K_bytes x0) := by
  refine uMet (Qc := uQi D (qwX10_keyOf a_K v_K_size v_K_length v_K_next v_K_kind v_K_place v_K_number v_K_name v_K_key a_K_keyNames f_K_keyNames a_K_bytes x0) (vwX10_keyOf K a_K v_K_size v_K_length v_K_next v_K_kind v_K_place v_K_number v_K_name v_K_key a_K_keyNames f_K_keyNames a_K_bytes x0)) (ret := (some .int)) (by decide) (Nat.le_of_ble_eq_true rfl) ?_
  intro p e s m below meth c A ls hAe hsz B hP hD hS hl
  have hx := B.1
  have hb := B.2.1
  have hl : lv_has ls 4 [(0, .ref a_K), (1, .long x0)] := hl
  refine lv_iconst (v := 0) hx hb dX10_keyOf_0 (by decide) ?_
  refine lv_istore_n (lv' := [(3, .int 0), (0, .ref a_K), (1, .long x0)]) hx hb dX10_keyOf_1 rfl hl (by decide) rfl (fun ls hl => ?_)
  have L3 : ∀ (n9 : Nat) (j1 : Nat), (j1 ≤ 13) → 13 - j1 < n9 → ∀ (H : Heap) (locs : List Loc) (ls : Array Slot), va_P D vwCl [(a_K, .inr (10, [.ref a_K_bytes, .ref a_K_keyNames, .int (nI v_K_size), .int (nI v_K_length), .int (nI v_K_next), .int v_K_kind, .int v_K_place, .int v_K_number, .long v_K_name, .int v_K_key])), (a_K_keyNames, .inl (K 2, 13, .inr (.inl f_K_keyNames)))] H → va_D A [(a_K, .inr (10, [.ref a_K_bytes, .ref a_K_keyNames, .int (nI v_K_size), .int (nI v_K_length), .int (nI v_K_next), .int v_K_kind, .int v_K_place, .int v_K_number, .long v_K_name, .int v_K_key])), (a_K_keyNames, .inl (K 2, 13, .inr (.inl f_K_keyNames)))] → va_S A s.heap H locs → lv_has ls 4 [(3, .int (nI j1)), (0, .ref a_K), (1, .long x0)] → W p l e { frames := 0, cells := 0, slots := 0, locals := 0 } s m ([.ref a_K, .long x0] : List Value).toArray below meth c H locs 0 0 (MQ below (uQi D (qwX10_keyOf a_K v_K_size v_K_length v_K_next v_K_kind v_K_place v_K_number v_K_name v_K_key a_K_keyNames f_K_keyNames a_K_bytes x0) (vwX10_keyOf K a_K v_K_size v_K_length v_K_next v_K_kind v_K_place v_K_number v_K_name v_K_key a_K_keyNames f_K_keyNames a_K_bytes x0) A) ([.ref a_K, .long x0] : List Value).toArray s 0 0 A) (F0 m 2 ls []) := by
    intro n9
    induction n9 with
    | zero => intros; exact absurd ‹_ < 0› (Nat.not_lt_zero _)
    | succ n2_ ih2 =>
      intro j1 hj1 hm2 H locs ls hP hD hS hl
      refine lv_iload_n hx hb dX10_keyOf_2 rfl (lv_at hl 0 rfl) ?_
      refine lv_bipush (v := 13) hx hb dX10_keyOf_3 (by decide) ?_
      refine lv_icmp_ge (tgt := 27) hx hb dX10_keyOf_5 (by decide) (fun c4 => ?_) (fun c4 => ?_)
      · have k_4 : 13 ≤ j1 := (nI_leI (a := 13) (b := j1) (by omega) (by omega)).mp c4
        refine lv_pc (q := 27) rfl ?_
        refine lv_iconst (v := (-1)) hx hb dX10_keyOf_27 (by decide) ?_
        exact uRi () B trivial (uSub hP [0, 1] rfl) (hD.sub [0, 1] rfl rfl) hS dX10_keyOf_28
      have k_4 : ¬ 13 ≤ j1 := fun h9 => c4 ((nI_leI (a := 13) (b := j1) (by omega) (by omega)).mpr h9)
      refine lv_pc (q := 8) rfl ?_
      refine lv_aload_n hx hb dX10_keyOf_8 rfl (lv_at hl 1 rfl) ?_
      refine uGet (ci := 10) (C := RX10) (T := TX10) (N := 10) (v := .ref a_K_keyNames) B inlX10 hP 0 rfl rfl 1 rfl mfl_X10_15 rfl rfl dX10_keyOf_9 ?_
      refine lv_iload_n hx hb dX10_keyOf_12 rfl (lv_at hl 0 rfl) ?_
      refine uLald (i := (nI j1)) (j := j1) B hP 1 rfl (nI_in (by omega) (by omega)) (nI_clamp (by omega)) dX10_keyOf_13 ?_
      refine lv_lload_n hx hb dX10_keyOf_14 rfl (lv_at hl 2 rfl) ?_
      refine W.lcmp hx hb dX10_keyOf_15 ?_
      refine lv_topi (fun y5 ey5 => ?_)
      refine lv_pc (q := 16) rfl ?_
      refine lv_if_ne (tgt := 21) hx hb dX10_keyOf_16 (by decide) (fun c6 => ?_) (fun c6 => ?_)
      · refine lv_iinc (v := nI (j1 + 1)) (lv' := [(3, .int (nI (j1 + 1))), (0, .ref a_K), (1, .long x0)]) hx hb dX10_keyOf_21 hl (k := 0) rfl (nI_1 _) (by decide) rfl (fun ls hl => ?_)
        refine lv_goto (tgt := 2) hx hb dX10_keyOf_24 (by decide) ?_
        refine lv_pc (q := 2) rfl ?_
        refine W.widen (k := 0) (n := 0) (Nat.le_of_ble_eq_true rfl) (Nat.le_of_ble_eq_true rfl) ?_
        exact ih2 (j1 + 1) (by omega) (by omega) _ _ _ (uSub hP [0, 1] rfl) (hD.sub [0, 1] rfl rfl) hS (lv_sub hl [0, 1, 2] rfl)
      refine lv_iload_n hx hb dX10_keyOf_19 rfl (lv_at hl 0 rfl) ?_
      exact uRi () B trivial (uSub hP [0, 1] rfl) (hD.sub [0, 1] rfl rfl) hS dX10_keyOf_20
  refine lv_pc (q := 2) rfl ?_
  refine W.widen (k := 0) (n := 0) (Nat.le_of_ble_eq_true rfl) (Nat.le_of_ble_eq_true rfl) ?_
  exact L3 ((13 - 0) + 1) 0 (by omega) (Nat.lt_succ_self _) _ _ _ hP hD hS hl
def qwX10_takeMark (a_K : Nat) (v_K_size : Nat) (v_K_length : Nat) (v_K_next : Nat) (v_K_kind : Int32) (v_K_place : Int32) (v_K_number : Int32) (v_K_name : Int64) (v_K_key : Int32) (a_K_bytes : Nat) (f_K_bytes : Nat → Int32) (a_K_keyNames : Nat) : (Nat × Int32) → Prop := (fun (u : Nat × Int32) => (u.1 ≤ 1000))
def vwX10_takeMark (K : Nat → ClassId) (a_K : Nat) (v_K_size : Nat) (v_K_length : Nat) (v_K_next : Nat) (v_K_kind : Int32) (v_K_place : Int32) (v_K_number : Int32) (v_K_name : Int64) (v_K_key : Int32) (a_K_bytes : Nat) (f_K_bytes : Nat → Int32) (a_K_keyNames : Nat) : (Nat × Int32) → va_W := (fun (u : Nat × Int32) => [(a_K, .inr (10, [.ref a_K_bytes, .ref a_K_keyNames, .int (nI v_K_size), .int (nI v_K_length), .int (nI ((u.1))), .int u.2, .int v_K_place, .int v_K_number, .long v_K_name, .int v_K_key])), (a_K_bytes, .inl (K 0, 1000, .inl f_K_bytes))])
set_option maxHeartbeats 4000000 in
set_option maxRecDepth 100000 in
theorem wX10_takeMark (l : Launch) (D : va_G) (K : Nat → ClassId) (sz : Nat) (a_K : Nat) (v_K_size : Nat) (v_K_length : Nat) (v_K_next : Nat) (v_K_kind : Int32) (v_K_place : Int32) (v_K_number : Int32) (v_K_name : Int64) (v_K_key : Int32) (a_K_bytes : Nat) (f_K_bytes : Nat → Int32) (a_K_keyNames : Nat) (hv_K_size : v_K_size ≤ 1000) (hv_K_length : v_K_length ≤ 1000) (hv_K_next : v_K_next ≤ 1000) (r_K_bytes : uRg f_K_bytes 0 255) (hpre0 : v_K_next < v_K_length) : uMv l yX10_takeMark cX10_takeMark 2 { frames := 0, cells := 0, slots := 0, locals := 0 } [.ref a_K] D K [(a_K, .inr (10, [.ref a_K_bytes, .ref a_K_keyNames, .int (nI v_K_size), .int (nI v_K_length), .int (nI v_K_next), .int v_K_kind, .int v_K_place, .int v_K_number, .long v_K_name, .int v_K_key])), (a_K_bytes, .inl (K 0, 1000, .inl f_K_bytes))] sz (qwX10_takeMark a_K v_K_size v_K_length v_K_next v_K_kind v_K_place v_K_number v_K_name v_K_key a_K_bytes f_K_bytes a_K_keyNames) (vwX10_takeMark K a_K v_K_size v_K_length v_K_next v_K_kind v_K_place v_K_number v_K_name v_K_key a_K_bytes f_K_bytes a_K_keyNames) := by
  refine uMet (Qc := uQv D (qwX10_takeMark a_K v_K_size v_K_length v_K_next v_K_kind v_K_place v_K_number v_K_name v_K_key a_K_bytes f_K_bytes a_K_keyNames) (vwX10_takeMark K a_K v_K_size v_K_length v_K_next v_K_kind v_K_place v_K_number v_K_name v_K_key a_K_bytes f_K_bytes a_K_keyNames)) (ret := none) (by decide) (Nat.le_of_ble_eq_true rfl) ?_
  intro p e s m below meth c A ls hAe hsz B hP hD hS hl
  have hx := B.1
  have hb := B.2.1
  have hl : lv_has ls 2 [(0, .ref a_K)] := hl
  refine lv_aload_n hx hb dX10_takeMark_0 rfl (lv_at hl 0 rfl) ?_
  refine uGet (ci := 10) (C := RX10) (T := TX10) (N := 10) (v := .ref a_K_bytes) B inlX10 hP 0 rfl rfl 0 rfl mfl_X10_9 rfl rfl dX10_takeMark_1 ?_
  refine lv_aload_n hx hb dX10_takeMark_4 rfl (lv_at hl 0 rfl) ?_
  refine uGet (ci := 10) (C := RX10) (T := TX10) (N := 10) (v := .int (nI v_K_next)) B inlX10 hP 0 rfl rfl 4 rfl mfl_X10_26 rfl rfl dX10_takeMark_5 ?_
  refine uIald (i := (nI v_K_next)) (j := v_K_next) B hP 1 rfl (nI_in (by omega) (by omega)) (nI_clamp (by omega)) dX10_takeMark_8 ?_
  obtain ⟨a1, ha1, ea1⟩ := uRnat r_K_bytes v_K_next (by decide)
  simp only [Int32.reduceToInt] at ha1
  refine lv_fixi (y := (nI a1)) ea1 ?_
  refine lv_pc (q := 9) rfl ?_
  refine lv_istore_n (lv' := [(1, .int (nI a1)), (0, .ref a_K)]) hx hb dX10_takeMark_9 rfl hl (by decide) rfl (fun ls hl => ?_)
  refine lv_aload_n hx hb dX10_takeMark_10 rfl (lv_at hl 1 rfl) ?_
  refine lv_iload_n hx hb dX10_takeMark_11 rfl (lv_at hl 0 rfl) ?_
  refine lv_bipush (v := 59) hx hb dX10_takeMark_12 (by decide) ?_
  refine lv_icmp_ne (tgt := 21) hx hb dX10_takeMark_14 (by decide) (fun c2 => ?_) (fun c2 => ?_)
  · have k_2 : ¬ a1 = 59 := fun h9 => c2 ((nI_eq (a := a1) (b := 59) (by omega) (by omega)).mpr h9)
    refine lv_iload_n hx hb dX10_takeMark_21 rfl (lv_at hl 0 rfl) ?_
    refine lv_pc (q := 22) rfl ?_
    refine lv_bipush (v := 44) hx hb dX10_takeMark_22 (by decide) ?_
    refine lv_icmp_ne (tgt := 31) hx hb dX10_takeMark_24 (by decide) (fun c3 => ?_) (fun c3 => ?_)
    · have k_3 : ¬ a1 = 44 := fun h9 => c3 ((nI_eq (a := a1) (b := 44) (by omega) (by omega)).mpr h9)
      refine lv_iconst (v := 5) hx hb dX10_takeMark_31 (by decide) ?_
      refine uPut (ci := 10) (C := RX10) (T := TX10) (N := 10) (ws' := [(a_K, .inr (10, [.ref a_K_bytes, .ref a_K_keyNames, .int (nI v_K_size), .int (nI v_K_length), .int (nI v_K_next), .int 5, .int v_K_place, .int v_K_number, .long v_K_name, .int v_K_key])), (a_K_bytes, .inl (K 0, 1000, .inl f_K_bytes))]) B inlX10 tyX10_ok nmX10 hP hD hS 0 rfl rfl 5 rfl mfl_X10_29 rfl rfl rfl rfl rfl rfl dX10_takeMark_32 (fun H locs hP hD hS => ?_)
      refine lv_aload_n hx hb dX10_takeMark_35 rfl (lv_at hl 1 rfl) ?_
      refine lv_dup hx hb dX10_takeMark_36 rfl ?_
      refine lv_pc (q := 37) rfl ?_
      refine uGet (ci := 10) (C := RX10) (T := TX10) (N := 10) (v := .int (nI v_K_next)) B inlX10 hP 0 rfl rfl 4 rfl mfl_X10_26 rfl rfl dX10_takeMark_37 ?_
      refine lv_iconst (v := 1) hx hb dX10_takeMark_40 (by decide) ?_
      refine lv_iadd hx hb dX10_takeMark_41 ?_
      refine lv_fixi (y := (nI (v_K_next + 1))) (by rw [show (1 : Int32) = nI 1 from rfl, nI_add]) ?_
      refine uPut (ci := 10) (C := RX10) (T := TX10) (N := 10) (ws' := [(a_K, .inr (10, [.ref a_K_bytes, .ref a_K_keyNames, .int (nI v_K_size), .int (nI v_K_length), .int (nI (v_K_next + 1)), .int 5, .int v_K_place, .int v_K_number, .long v_K_name, .int v_K_key])), (a_K_bytes, .inl (K 0, 1000, .inl f_K_bytes))]) B inlX10 tyX10_ok nmX10 hP hD hS 0 rfl rfl 4 rfl mfl_X10_26 rfl rfl rfl rfl rfl rfl dX10_takeMark_42 (fun H locs hP hD hS => ?_)
      exact uRv (v_K_next + 1, 5) B (by unfold qwX10_takeMark; (try dsimp only); omega) (uSub hP [0, 1] rfl) (hD.sub [0, 1] rfl rfl) hS dX10_takeMark_45
    have k_3 : a1 = 44 := (nI_eq (a := a1) (b := 44) (by omega) (by omega)).mp c3
    refine lv_iconst (v := 4) hx hb dX10_takeMark_27 (by decide) ?_
    refine lv_goto (tgt := 32) hx hb dX10_takeMark_28 (by decide) ?_
    refine uPut (ci := 10) (C := RX10) (T := TX10) (N := 10) (ws' := [(a_K, .inr (10, [.ref a_K_bytes, .ref a_K_keyNames, .int (nI v_K_size), .int (nI v_K_length), .int (nI v_K_next), .int 4, .int v_K_place, .int v_K_number, .long v_K_name, .int v_K_key])), (a_K_bytes, .inl (K 0, 1000, .inl f_K_bytes))]) B inlX10 tyX10_ok nmX10 hP hD hS 0 rfl rfl 5 rfl mfl_X10_29 rfl rfl rfl rfl rfl rfl dX10_takeMark_32 (fun H locs hP hD hS => ?_)
    refine lv_aload_n hx hb dX10_takeMark_35 rfl (lv_at hl 1 rfl) ?_
    refine lv_pc (q := 36) rfl ?_
    refine lv_dup hx hb dX10_takeMark_36 rfl ?_
    refine uGet (ci := 10) (C := RX10) (T := TX10) (N := 10) (v := .int (nI v_K_next)) B inlX10 hP 0 rfl rfl 4 rfl mfl_X10_26 rfl rfl dX10_takeMark_37 ?_
    refine lv_iconst (v := 1) hx hb dX10_takeMark_40 (by decide) ?_
    refine lv_iadd hx hb dX10_takeMark_41 ?_
    refine lv_fixi (y := (nI (v_K_next + 1))) (by rw [show (1 : Int32) = nI 1 from rfl, nI_add]) ?_
    refine uPut (ci := 10) (C := RX10) (T := TX10) (N := 10) (ws' := [(a_K, .inr (10, [.ref a_K_bytes, .ref a_K_keyNames, .int (nI v_K_size), .int (nI v_K_length), .int (nI (v_K_next + 1)), .int 4, .int v_K_place, .int v_K_number, .long v_K_name, .int v_K_key])), (a_K_bytes, .inl (K 0, 1000, .inl f_K_bytes))]) B inlX10 tyX10_ok nmX10 hP hD hS 0 rfl rfl 4 rfl mfl_X10_26 rfl rfl rfl rfl rfl rfl dX10_takeMark_42 (fun H locs hP hD hS => ?_)
    exact uRv (v_K_next + 1, 4) B (by unfold qwX10_takeMark; (try dsimp only); omega) (uSub hP [0, 1] rfl) (hD.sub [0, 1] rfl rfl) hS dX10_takeMark_45
  have k_2 : a1 = 59 := (nI_eq (a := a1) (b := 59) (by omega) (by omega)).mp c2
  refine lv_iconst (v := 3) hx hb dX10_takeMark_17 (by decide) ?_
  refine lv_pc (q := 18) rfl ?_
  refine lv_goto (tgt := 32) hx hb dX10_takeMark_18 (by decide) ?_
  refine uPut (ci := 10) (C := RX10) (T := TX10) (N := 10) (ws' := [(a_K, .inr (10, [.ref a_K_bytes, .ref a_K_keyNames, .int (nI v_K_size), .int (nI v_K_length), .int (nI v_K_next), .int 3, .int v_K_place, .int v_K_number, .long v_K_name, .int v_K_key])), (a_K_bytes, .inl (K 0, 1000, .inl f_K_bytes))]) B inlX10 tyX10_ok nmX10 hP hD hS 0 rfl rfl 5 rfl mfl_X10_29 rfl rfl rfl rfl rfl rfl dX10_takeMark_32 (fun H locs hP hD hS => ?_)
  refine lv_aload_n hx hb dX10_takeMark_35 rfl (lv_at hl 1 rfl) ?_
  refine lv_dup hx hb dX10_takeMark_36 rfl ?_
  refine uGet (ci := 10) (C := RX10) (T := TX10) (N := 10) (v := .int (nI v_K_next)) B inlX10 hP 0 rfl rfl 4 rfl mfl_X10_26 rfl rfl dX10_takeMark_37 ?_
  refine lv_iconst (v := 1) hx hb dX10_takeMark_40 (by decide) ?_
  refine lv_pc (q := 41) rfl ?_
  refine lv_iadd hx hb dX10_takeMark_41 ?_
  refine lv_fixi (y := (nI (v_K_next + 1))) (by rw [show (1 : Int32) = nI 1 from rfl, nI_add]) ?_
  refine uPut (ci := 10) (C := RX10) (T := TX10) (N := 10) (ws' := [(a_K, .inr (10, [.ref a_K_bytes, .ref a_K_keyNames, .int (nI v_K_size), .int (nI v_K_length), .int (nI (v_K_next + 1)), .int 3, .int v_K_place, .int v_K_number, .long v_K_name, .int v_K_key])), (a_K_bytes, .inl (K 0, 1000, .inl f_K_bytes))]) B inlX10 tyX10_ok nmX10 hP hD hS 0 rfl rfl 4 rfl mfl_X10_26 rfl rfl rfl rfl rfl rfl dX10_takeMark_42 (fun H locs hP hD hS => ?_)
  exact uRv (v_K_next + 1, 3) B (by unfold qwX10_takeMark; (try dsimp only); omega) (uSub hP [0, 1] rfl) (hD.sub [0, 1] rfl rfl) hS dX10_takeMark_45
def qwX10_takeNumber (a_K : Nat) (v_K_size : Nat) (v_K_length : Nat) (v_K_next : Nat) (v_K_kind : Int32) (v_K_place : Int32) (v_K_number : Int32) (v_K_name : Int64) (v_K_key : Int32) (a_K_bytes : Nat) (f_K_bytes : Nat → Int32) (a_K_keyNames : Nat) : (Nat × Int32 × Int32) → Prop := (fun (u : Nat × Int32 × Int32) => (u.1 ≤ 1000))
def vwX10_takeNumber (K : Nat → ClassId) (a_K : Nat) (v_K_size : Nat) (v_K_length : Nat) (v_K_next : Nat) (v_K_kind : Int32) (v_K_place : Int32) (v_K_number : Int32) (v_K_name : Int64) (v_K_key : Int32) (a_K_bytes : Nat) (f_K_bytes : Nat → Int32) (a_K_keyNames : Nat) : (Nat × Int32 × Int32) → va_W := (fun (u : Nat × Int32 × Int32) => [(a_K, .inr (10, [.ref a_K_bytes, .ref a_K_keyNames, .int (nI v_K_size), .int (nI v_K_length), .int (nI ((u.1))), .int u.2.1, .int v_K_place, .int u.2.2, .long v_K_name, .int v_K_key])), (a_K_bytes, .inl (K 0, 1000, .inl f_K_bytes))])
set_option maxHeartbeats 4000000 in
set_option maxRecDepth 100000 in
theorem wX10_takeNumber (l : Launch) (D : va_G) (K : Nat → ClassId) (sz : Nat) (a_K : Nat) (v_K_size : Nat) (v_K_length : Nat) (v_K_next : Nat) (v_K_kind : Int32) (v_K_place : Int32) (v_K_number : Int32) (v_K_name : Int64) (v_K_key : Int32) (a_K_bytes : Nat) (f_K_bytes : Nat → Int32) (a_K_keyNames : Nat) (hv_K_size : v_K_size ≤ 1000) (hv_K_length : v_K_length ≤ 1000) (hv_K_next : v_K_next ≤ 1000) (r_K_bytes : uRg f_K_bytes 0 255) : uMv l yX10_takeNumber cX10_takeNumber 1 { frames := 1, cells := 0, slots := 0, locals := 20 } [.ref a_K] D K [(a_K, .inr (10, [.ref a_K_bytes, .ref a_K_keyNames, .int (nI v_K_size), .int (nI v_K_length), .int (nI v_K_next), .int v_K_kind, .int v_K_place, .int v_K_number, .long v_K_name, .int v_K_key])), (a_K_bytes, .inl (K 0, 1000, .inl f_K_bytes))] sz (qwX10_takeNumber a_K v_K_size v_K_length v_K_next v_K_kind v_K_place v_K_number v_K_name v_K_key a_K_bytes f_K_bytes a_K_keyNames) (vwX10_takeNumber K a_K v_K_size v_K_length v_K_next v_K_kind v_K_place v_K_number v_K_name v_K_key a_K_bytes f_K_bytes a_K_keyNames) := by
  refine uMet (Qc := uQv D (qwX10_takeNumber a_K v_K_size v_K_length v_K_next v_K_kind v_K_place v_K_number v_K_name v_K_key a_K_bytes f_K_bytes a_K_keyNames) (vwX10_takeNumber K a_K v_K_size v_K_length v_K_next v_K_kind v_K_place v_K_number v_K_name v_K_key a_K_bytes f_K_bytes a_K_keyNames)) (ret := none) (by decide) (Nat.le_of_ble_eq_true rfl) ?_
  intro p e s m below meth c A ls hAe hsz B hP hD hS hl
  have hx := B.1
  have hb := B.2.1
  have hl : lv_has ls 1 [(0, .ref a_K)] := hl
  refine lv_aload_n hx hb dX10_takeNumber_0 rfl (lv_at hl 0 rfl) ?_
  refine lv_iconst (v := 0) hx hb dX10_takeNumber_1 (by decide) ?_
  refine uPut (ci := 10) (C := RX10) (T := TX10) (N := 10) (ws' := [(a_K, .inr (10, [.ref a_K_bytes, .ref a_K_keyNames, .int (nI v_K_size), .int (nI v_K_length), .int (nI v_K_next), .int v_K_kind, .int v_K_place, .int 0, .long v_K_name, .int v_K_key])), (a_K_bytes, .inl (K 0, 1000, .inl f_K_bytes))]) B inlX10 tyX10_ok nmX10 hP hD hS 0 rfl rfl 7 rfl mfl_X10_35 rfl rfl rfl rfl rfl rfl dX10_takeNumber_2 (fun H locs hP hD hS => ?_)
  have L4 : ∀ (n9 : Nat) (y1 : Nat) (y2 : Int32), (y1 ≤ 1000) → v_K_length - y1 < n9 → ∀ (H : Heap) (locs : List Loc) (ls : Array Slot), va_P D vwCl [(a_K, .inr (10, [.ref a_K_bytes, .ref a_K_keyNames, .int (nI v_K_size), .int (nI v_K_length), .int (nI y1), .int v_K_kind, .int v_K_place, .int y2, .long v_K_name, .int v_K_key])), (a_K_bytes, .inl (K 0, 1000, .inl f_K_bytes))] H → va_D A [(a_K, .inr (10, [.ref a_K_bytes, .ref a_K_keyNames, .int (nI v_K_size), .int (nI v_K_length), .int (nI y1), .int v_K_kind, .int v_K_place, .int y2, .long v_K_name, .int v_K_key])), (a_K_bytes, .inl (K 0, 1000, .inl f_K_bytes))] → va_S A s.heap H locs → lv_has ls 1 [(0, .ref a_K)] → W p l e { frames := 1, cells := 0, slots := 0, locals := 20 } s m ([.ref a_K] : List Value).toArray below meth c H locs 0 0 (MQ below (uQv D (qwX10_takeNumber a_K v_K_size v_K_length v_K_next v_K_kind v_K_place v_K_number v_K_name v_K_key a_K_bytes f_K_bytes a_K_keyNames) (vwX10_takeNumber K a_K v_K_size v_K_length v_K_next v_K_kind v_K_place v_K_number v_K_name v_K_key a_K_bytes f_K_bytes a_K_keyNames) A) ([.ref a_K] : List Value).toArray s 0 0 A) (F0 m 5 ls []) := by
    intro n9
    induction n9 with
    | zero => intros; exact absurd ‹_ < 0› (Nat.not_lt_zero _)
    | succ n5_ ih5 =>
      intro y1 y2 hy1 hm5 H locs ls hP hD hS hl
      refine lv_aload_n hx hb dX10_takeNumber_5 rfl (lv_at hl 0 rfl) ?_
      refine uGet (ci := 10) (C := RX10) (T := TX10) (N := 10) (v := .int (nI y1)) B inlX10 hP 0 rfl rfl 4 rfl mfl_X10_26 rfl rfl dX10_takeNumber_6 ?_
      refine lv_pc (q := 9) rfl ?_
      refine lv_aload_n hx hb dX10_takeNumber_9 rfl (lv_at hl 0 rfl) ?_
      refine uGet (ci := 10) (C := RX10) (T := TX10) (N := 10) (v := .int (nI v_K_length)) B inlX10 hP 0 rfl rfl 3 rfl mfl_X10_23 rfl rfl dX10_takeNumber_10 ?_
      refine lv_icmp_ge (tgt := 74) hx hb dX10_takeNumber_13 (by decide) (fun c5 => ?_) (fun c5 => ?_)
      · have k_5 : v_K_length ≤ y1 := (nI_leI (a := v_K_length) (b := y1) (by omega) (by omega)).mp c5
        refine lv_aload_n hx hb dX10_takeNumber_74 rfl (lv_at hl 0 rfl) ?_
        refine lv_iconst (v := 2) hx hb dX10_takeNumber_75 (by decide) ?_
        refine uPut (ci := 10) (C := RX10) (T := TX10) (N := 10) (ws' := [(a_K, .inr (10, [.ref a_K_bytes, .ref a_K_keyNames, .int (nI v_K_size), .int (nI v_K_length), .int (nI y1), .int 2, .int v_K_place, .int y2, .long v_K_name, .int v_K_key])), (a_K_bytes, .inl (K 0, 1000, .inl f_K_bytes))]) B inlX10 tyX10_ok nmX10 hP hD hS 0 rfl rfl 5 rfl mfl_X10_29 rfl rfl rfl rfl rfl rfl dX10_takeNumber_76 (fun H locs hP hD hS => ?_)
        refine lv_pc (q := 79) rfl ?_
        exact uRv (y1, 2, y2) B (by unfold qwX10_takeNumber; (try dsimp only); omega) (uSub hP [0, 1] rfl) (hD.sub [0, 1] rfl rfl) hS dX10_takeNumber_79
      have k_5 : ¬ v_K_length ≤ y1 := fun h9 => c5 ((nI_leI (a := v_K_length) (b := y1) (by omega) (by omega)).mpr h9)
      refine lv_aload_n hx hb dX10_takeNumber_16 rfl (lv_at hl 0 rfl) ?_
      refine uGet (ci := 10) (C := RX10) (T := TX10) (N := 10) (v := .ref a_K_bytes) B inlX10 hP 0 rfl rfl 0 rfl mfl_X10_9 rfl rfl dX10_takeNumber_17 ?_
      refine lv_aload_n hx hb dX10_takeNumber_20 rfl (lv_at hl 0 rfl) ?_
      refine lv_pc (q := 21) rfl ?_
      refine uGet (ci := 10) (C := RX10) (T := TX10) (N := 10) (v := .int (nI y1)) B inlX10 hP 0 rfl rfl 4 rfl mfl_X10_26 rfl rfl dX10_takeNumber_21 ?_
      refine uIald (i := (nI y1)) (j := y1) B hP 1 rfl (nI_in (by omega) (by omega)) (nI_clamp (by omega)) dX10_takeNumber_24 ?_
      obtain ⟨a6, ha6, ea6⟩ := uRnat r_K_bytes y1 (by decide)
      simp only [Int32.reduceToInt] at ha6
      refine lv_fixi (y := (nI a6)) ea6 ?_
      refine uSi (As := [.int (nI a6)]) (rest := []) (wr := [(a_K, .inr (10, [.ref a_K_bytes, .ref a_K_keyNames, .int (nI v_K_size), .int (nI v_K_length), .int (nI y1), .int v_K_kind, .int v_K_place, .int y2, .long v_K_name, .int v_K_key])), (a_K_bytes, .inl (K 0, 1000, .inl f_K_bytes))]) [] B hl.1 hP hD hS [] [0, 1] rfl rfl rfl (wX10_isDigit l D K _ (nI a6)) wd_X10_isDigit mml_X10_72 rfl rfl ⟨Nat.le_of_ble_eq_true rfl, Nat.le_of_ble_eq_true rfl⟩ (Nat.le_of_ble_eq_true rfl) ⟨Nat.le_of_ble_eq_true rfl, Nat.le_of_ble_eq_true rfl⟩ dX10_takeNumber_25 (fun r7 u H locs hw hP hD hS => ?_)
      try dsimp only at hw
      have w8 := hw
      have hP : va_P D vwCl [(a_K, .inr (10, [.ref a_K_bytes, .ref a_K_keyNames, .int (nI v_K_size), .int (nI v_K_length), .int (nI y1), .int v_K_kind, .int v_K_place, .int y2, .long v_K_name, .int v_K_key])), (a_K_bytes, .inl (K 0, 1000, .inl f_K_bytes))] H := hP
      have hD := uDPJ hP hD
      rcases w8 with rfl | rfl
      · refine lv_if_eq (tgt := 74) hx hb dX10_takeNumber_28 (by decide) (fun _ => ?_) (fun h9 => absurd (by decide) h9)
        refine lv_aload_n hx hb dX10_takeNumber_74 rfl (lv_at hl 0 rfl) ?_
        refine lv_iconst (v := 2) hx hb dX10_takeNumber_75 (by decide) ?_
        refine lv_pc (q := 76) rfl ?_
        refine uPut (ci := 10) (C := RX10) (T := TX10) (N := 10) (ws' := [(a_K, .inr (10, [.ref a_K_bytes, .ref a_K_keyNames, .int (nI v_K_size), .int (nI v_K_length), .int (nI y1), .int 2, .int v_K_place, .int y2, .long v_K_name, .int v_K_key])), (a_K_bytes, .inl (K 0, 1000, .inl f_K_bytes))]) B inlX10 tyX10_ok nmX10 hP hD hS 0 rfl rfl 5 rfl mfl_X10_29 rfl rfl rfl rfl rfl rfl dX10_takeNumber_76 (fun H locs hP hD hS => ?_)
        exact uRv (y1, 2, y2) B (by unfold qwX10_takeNumber; (try dsimp only); omega) (uSub hP [0, 1] rfl) (hD.sub [0, 1] rfl rfl) hS dX10_takeNumber_79
      refine lv_if_eq (tgt := 74) hx hb dX10_takeNumber_28 (by decide) (fun h9 => absurd h9 (by decide)) (fun _ => ?_)
      refine lv_aload_n hx hb dX10_takeNumber_31 rfl (lv_at hl 0 rfl) ?_
      refine lv_aload_n hx hb dX10_takeNumber_32 rfl (lv_at hl 0 rfl) ?_
      refine lv_pc (q := 33) rfl ?_
      refine uGet (ci := 10) (C := RX10) (T := TX10) (N := 10) (v := .int y2) B inlX10 hP 0 rfl rfl 7 rfl mfl_X10_35 rfl rfl dX10_takeNumber_33 ?_
      refine lv_bipush (v := 10) hx hb dX10_takeNumber_36 (by decide) ?_
      refine lv_imul hx hb dX10_takeNumber_38 ?_
      refine lv_aload_n hx hb dX10_takeNumber_39 rfl (lv_at hl 0 rfl) ?_
      refine uGet (ci := 10) (C := RX10) (T := TX10) (N := 10) (v := .ref a_K_bytes) B inlX10 hP 0 rfl rfl 0 rfl mfl_X10_9 rfl rfl dX10_takeNumber_40 ?_
      refine lv_aload_n hx hb dX10_takeNumber_43 rfl (lv_at hl 0 rfl) ?_
      refine lv_pc (q := 44) rfl ?_
      refine uGet (ci := 10) (C := RX10) (T := TX10) (N := 10) (v := .int (nI y1)) B inlX10 hP 0 rfl rfl 4 rfl mfl_X10_26 rfl rfl dX10_takeNumber_44 ?_
      refine uIald (i := (nI y1)) (j := y1) B hP 1 rfl (nI_in (by omega) (by omega)) (nI_clamp (by omega)) dX10_takeNumber_47 ?_
      obtain ⟨a9, ha9, ea9⟩ := uRnat r_K_bytes y1 (by decide)
      simp only [Int32.reduceToInt] at ha9
      refine lv_fixi (y := (nI a9)) ea9 ?_
      refine lv_iadd hx hb dX10_takeNumber_48 ?_
      refine lv_bipush (v := 48) hx hb dX10_takeNumber_49 (by decide) ?_
      refine lv_isub hx hb dX10_takeNumber_51 ?_
      refine lv_sipush (v := 1000) hx hb dX10_takeNumber_52 (by decide) ?_
      refine lv_pc (q := 55) rfl ?_
      refine uMin B hl.1 mml_X10_85 (Nat.le_of_ble_eq_true rfl) (Nat.le_of_ble_eq_true rfl) (Nat.le_of_ble_eq_true rfl) (Nat.le_of_ble_eq_true rfl) dX10_takeNumber_55 ?_
      refine uPut (ci := 10) (C := RX10) (T := TX10) (N := 10) (ws' := [(a_K, .inr (10, [.ref a_K_bytes, .ref a_K_keyNames, .int (nI v_K_size), .int (nI v_K_length), .int (nI y1), .int v_K_kind, .int v_K_place, .int (if 1000 < (((y2 * 10) + (nI a9)) - 48) then 1000 else (((y2 * 10) + (nI a9)) - 48)), .long v_K_name, .int v_K_key])), (a_K_bytes, .inl (K 0, 1000, .inl f_K_bytes))]) B inlX10 tyX10_ok nmX10 hP hD hS 0 rfl rfl 7 rfl mfl_X10_35 rfl rfl rfl rfl rfl rfl dX10_takeNumber_58 (fun H locs hP hD hS => ?_)
      refine lv_aload_n hx hb dX10_takeNumber_61 rfl (lv_at hl 0 rfl) ?_
      refine lv_dup hx hb dX10_takeNumber_62 rfl ?_
      refine uGet (ci := 10) (C := RX10) (T := TX10) (N := 10) (v := .int (nI y1)) B inlX10 hP 0 rfl rfl 4 rfl mfl_X10_26 rfl rfl dX10_takeNumber_63 ?_
      refine lv_iconst (v := 1) hx hb dX10_takeNumber_66 (by decide) ?_
      refine lv_pc (q := 67) rfl ?_
      refine lv_iadd hx hb dX10_takeNumber_67 ?_
      refine lv_fixi (y := (nI (y1 + 1))) (by rw [show (1 : Int32) = nI 1 from rfl, nI_add]) ?_
      refine uPut (ci := 10) (C := RX10) (T := TX10) (N := 10) (ws' := [(a_K, .inr (10, [.ref a_K_bytes, .ref a_K_keyNames, .int (nI v_K_size), .int (nI v_K_length), .int (nI (y1 + 1)), .int v_K_kind, .int v_K_place, .int (if 1000 < (((y2 * 10) + (nI a9)) - 48) then 1000 else (((y2 * 10) + (nI a9)) - 48)), .long v_K_name, .int v_K_key])), (a_K_bytes, .inl (K 0, 1000, .inl f_K_bytes))]) B inlX10 tyX10_ok nmX10 hP hD hS 0 rfl rfl 4 rfl mfl_X10_26 rfl rfl rfl rfl rfl rfl dX10_takeNumber_68 (fun H locs hP hD hS => ?_)
      refine lv_goto (tgt := 5) hx hb dX10_takeNumber_71 (by decide) ?_
      refine lv_pc (q := 5) rfl ?_
      refine W.widen (k := 0) (n := 0) (Nat.le_of_ble_eq_true rfl) (Nat.le_of_ble_eq_true rfl) ?_
      exact ih5 (y1 + 1) (if 1000 < (((y2 * 10) + (nI a9)) - 48) then 1000 else (((y2 * 10) + (nI a9)) - 48)) (by omega) (by omega) _ _ _ (uSub hP [0, 1] rfl) (hD.sub [0, 1] rfl rfl) hS (lv_sub hl [0] rfl)
  refine lv_pc (q := 5) rfl ?_
  refine W.widen (k := 0) (n := 0) (Nat.le_of_ble_eq_true rfl) (Nat.le_of_ble_eq_true rfl) ?_
  exact L4 ((v_K_length - v_K_next) + 1) v_K_next 0 (by omega) (Nat.lt_succ_self _) _ _ _ hP hD hS hl
def qwX10_takeName (a_K : Nat) (v_K_size : Nat) (v_K_length : Nat) (v_K_next : Nat) (v_K_kind : Int32) (v_K_place : Int32) (v_K_number : Int32) (v_K_name : Int64) (v_K_key : Int32) (a_K_bytes : Nat) (f_K_bytes : Nat → Int32) (a_K_keyNames : Nat) (f_K_keyNames : Nat → Int64) : (Nat × Int32 × Int64 × Int32) → Prop := (fun (u : Nat × Int32 × Int64 × Int32) => (u.1 ≤ 1000))
def vwX10_takeName (K : Nat → ClassId) (a_K : Nat) (v_K_size : Nat) (v_K_length : Nat) (v_K_next : Nat) (v_K_kind : Int32) (v_K_place : Int32) (v_K_number : Int32) (v_K_name : Int64) (v_K_key : Int32) (a_K_bytes : Nat) (f_K_bytes : Nat → Int32) (a_K_keyNames : Nat) (f_K_keyNames : Nat → Int64) : (Nat × Int32 × Int64 × Int32) → va_W := (fun (u : Nat × Int32 × Int64 × Int32) => [(a_K, .inr (10, [.ref a_K_bytes, .ref a_K_keyNames, .int (nI v_K_size), .int (nI v_K_length), .int (nI ((u.1))), .int u.2.1, .int v_K_place, .int v_K_number, .long u.2.2.1, .int u.2.2.2])), (a_K_bytes, .inl (K 0, 1000, .inl f_K_bytes)), (a_K_keyNames, .inl (K 2, 13, .inr (.inl f_K_keyNames)))])
set_option maxHeartbeats 4000000 in
set_option maxRecDepth 100000 in
theorem wX10_takeName (l : Launch) (D : va_G) (K : Nat → ClassId) (sz : Nat) (a_K : Nat) (v_K_size : Nat) (v_K_length : Nat) (v_K_next : Nat) (v_K_kind : Int32) (v_K_place : Int32) (v_K_number : Int32) (v_K_name : Int64) (v_K_key : Int32) (a_K_bytes : Nat) (f_K_bytes : Nat → Int32) (a_K_keyNames : Nat) (f_K_keyNames : Nat → Int64) (hv_K_size : v_K_size ≤ 1000) (hv_K_length : v_K_length ≤ 1000) (hv_K_next : v_K_next ≤ 1000) (r_K_bytes : uRg f_K_bytes 0 255) : uMv l yX10_takeName cX10_takeName 1 { frames := 1, cells := 0, slots := 0, locals := 23 } [.ref a_K] D K [(a_K, .inr (10, [.ref a_K_bytes, .ref a_K_keyNames, .int (nI v_K_size), .int (nI v_K_length), .int (nI v_K_next), .int v_K_kind, .int v_K_place, .int v_K_number, .long v_K_name, .int v_K_key])), (a_K_bytes, .inl (K 0, 1000, .inl f_K_bytes)), (a_K_keyNames, .inl (K 2, 13, .inr (.inl f_K_keyNames)))] sz (qwX10_takeName a_K v_K_size v_K_length v_K_next v_K_kind v_K_place v_K_number v_K_name v_K_key a_K_bytes f_K_bytes a_K_keyNames f_K_keyNames) (vwX10_takeName K a_K v_K_size v_K_length v_K_next v_K_kind v_K_place v_K_number v_K_name v_K_key a_K_bytes f_K_bytes a_K_keyNames f_K_keyNames) := by
  refine uMet (Qc := uQv D (qwX10_takeName a_K v_K_size v_K_length v_K_next v_K_kind v_K_place v_K_number v_K_name v_K_key a_K_bytes f_K_bytes a_K_keyNames f_K_keyNames) (vwX10_takeName K a_K v_K_size v_K_length v_K_next v_K_kind v_K_place v_K_number v_K_name v_K_key a_K_bytes f_K_bytes a_K_keyNames f_K_keyNames)) (ret := none) (by decide) (Nat.le_of_ble_eq_true rfl) ?_
  intro p e s m below meth c A ls hAe hsz B hP hD hS hl
  have hx := B.1
  have hb := B.2.1
  have hl : lv_has ls 1 [(0, .ref a_K)] := hl
  refine lv_aload_n hx hb dX10_takeName_0 rfl (lv_at hl 0 rfl) ?_
  refine lv_lconst (v := 0) hx hb dX10_takeName_1 rfl ?_
  refine uPut (ci := 10) (C := RX10) (T := TX10) (N := 10) (ws' := [(a_K, .inr (10, [.ref a_K_bytes, .ref a_K_keyNames, .int (nI v_K_size), .int (nI v_K_length), .int (nI v_K_next), .int v_K_kind, .int v_K_place, .int v_K_number, .long 0, .int v_K_key])), (a_K_bytes, .inl (K 0, 1000, .inl f_K_bytes)), (a_K_keyNames, .inl (K 2, 13, .inr (.inl f_K_keyNames)))]) B inlX10 tyX10_ok nmX10 hP hD hS 0 rfl rfl 8 rfl mfl_X10_38 rfl rfl rfl rfl rfl rfl dX10_takeName_2 (fun H locs hP hD hS => ?_)
  have L4 : ∀ (n9 : Nat) (y1 : Nat) (y2 : Int64), (y1 ≤ 1000) → v_K_length - y1 < n9 → ∀ (H : Heap) (locs : List Loc) (ls : Array Slot), va_P D vwCl [(a_K, .inr (10, [.ref a_K_bytes, .ref a_K_keyNames, .int (nI v_K_size), .int (nI v_K_length), .int (nI y1), .int v_K_kind, .int v_K_place, .int v_K_number, .long y2, .int v_K_key])), (a_K_bytes, .inl (K 0, 1000, .inl f_K_bytes)), (a_K_keyNames, .inl (K 2, 13, .inr (.inl f_K_keyNames)))] H → va_D A [(a_K, .inr (10, [.ref a_K_bytes, .ref a_K_keyNames, .int (nI v_K_size), .int (nI v_K_length), .int (nI y1), .int v_K_kind, .int v_K_place, .int v_K_number, .long y2, .int v_K_key])), (a_K_bytes, .inl (K 0, 1000, .inl f_K_bytes)), (a_K_keyNames, .inl (K 2, 13, .inr (.inl f_K_keyNames)))] → va_S A s.heap H locs → lv_has ls 1 [(0, .ref a_K)] → W p l e { frames := 1, cells := 0, slots := 0, locals := 23 } s m ([.ref a_K] : List Value).toArray below meth c H locs 0 0 (MQ below (uQv D (qwX10_takeName a_K v_K_size v_K_length v_K_next v_K_kind v_K_place v_K_number v_K_name v_K_key a_K_bytes f_K_bytes a_K_keyNames f_K_keyNames) (vwX10_takeName K a_K v_K_size v_K_length v_K_next v_K_kind v_K_place v_K_number v_K_name v_K_key a_K_bytes f_K_bytes a_K_keyNames f_K_keyNames) A) ([.ref a_K] : List Value).toArray s 0 0 A) (F0 m 5 ls []) := by
    intro n9
    induction n9 with
    | zero => intros; exact absurd ‹_ < 0› (Nat.not_lt_zero _)
    | succ n5_ ih5 =>
      intro y1 y2 hy1 hm5 H locs ls hP hD hS hl
      refine lv_aload_n hx hb dX10_takeName_5 rfl (lv_at hl 0 rfl) ?_
      refine uGet (ci := 10) (C := RX10) (T := TX10) (N := 10) (v := .int (nI y1)) B inlX10 hP 0 rfl rfl 4 rfl mfl_X10_26 rfl rfl dX10_takeName_6 ?_
      refine lv_pc (q := 9) rfl ?_
      refine lv_aload_n hx hb dX10_takeName_9 rfl (lv_at hl 0 rfl) ?_
      refine uGet (ci := 10) (C := RX10) (T := TX10) (N := 10) (v := .int (nI v_K_length)) B inlX10 hP 0 rfl rfl 3 rfl mfl_X10_23 rfl rfl dX10_takeName_10 ?_
      refine lv_icmp_ge (tgt := 78) hx hb dX10_takeName_13 (by decide) (fun c5 => ?_) (fun c5 => ?_)
      · have k_5 : v_K_length ≤ y1 := (nI_leI (a := v_K_length) (b := y1) (by omega) (by omega)).mp c5
        refine lv_aload_n hx hb dX10_takeName_78 rfl (lv_at hl 0 rfl) ?_
        refine lv_aload_n hx hb dX10_takeName_79 rfl (lv_at hl 0 rfl) ?_
        refine uGet (ci := 10) (C := RX10) (T := TX10) (N := 10) (v := .int (nI y1)) B inlX10 hP 0 rfl rfl 4 rfl mfl_X10_26 rfl rfl dX10_takeName_80 ?_
        refine lv_pc (q := 83) rfl ?_
        refine lv_aload_n hx hb dX10_takeName_83 rfl (lv_at hl 0 rfl) ?_
        refine uGet (ci := 10) (C := RX10) (T := TX10) (N := 10) (v := .int v_K_place) B inlX10 hP 0 rfl rfl 6 rfl mfl_X10_32 rfl rfl dX10_takeName_84 ?_
        refine lv_isub hx hb dX10_takeName_87 ?_
        refine lv_bipush (v := 8) hx hb dX10_takeName_88 (by decide) ?_
        refine lv_icmp_le (tgt := 97) hx hb dX10_takeName_90 (by decide) (fun c6 => ?_) (fun c6 => ?_)
        · refine lv_iconst (v := 1) hx hb dX10_takeName_97 (by decide) ?_
          refine lv_pc (q := 98) rfl ?_
          refine uPut (ci := 10) (C := RX10) (T := TX10) (N := 10) (ws' := [(a_K, .inr (10, [.ref a_K_bytes, .ref a_K_keyNames, .int (nI v_K_size), .int (nI v_K_length), .int (nI y1), .int 1, .int v_K_place, .int v_K_number, .long y2, .int v_K_key])), (a_K_bytes, .inl (K 0, 1000, .inl f_K_bytes)), (a_K_keyNames, .inl (K 2, 13, .inr (.inl f_K_keyNames)))]) B inlX10 tyX10_ok nmX10 hP hD hS 0 rfl rfl 5 rfl mfl_X10_29 rfl rfl rfl rfl rfl rfl dX10_takeName_98 (fun H locs hP hD hS => ?_)
          refine lv_aload_n hx hb dX10_takeName_101 rfl (lv_at hl 0 rfl) ?_
          refine uGet (ci := 10) (C := RX10) (T := TX10) (N := 10) (v := .int 1) B inlX10 hP 0 rfl rfl 5 rfl mfl_X10_29 rfl rfl dX10_takeName_102 ?_
          refine lv_iconst (v := 1) hx hb dX10_takeName_105 (by decide) ?_
          refine lv_icmp_ne (tgt := 121) hx hb dX10_takeName_106 (by decide) (fun h9 => absurd (by decide) h9) (fun _ => ?_)
          refine lv_aload_n hx hb dX10_takeName_109 rfl (lv_at hl 0 rfl) ?_
          refine lv_pc (q := 110) rfl ?_
          refine lv_aload_n hx hb dX10_takeName_110 rfl (lv_at hl 0 rfl) ?_
          refine lv_aload_n hx hb dX10_takeName_111 rfl (lv_at hl 0 rfl) ?_
          refine uGet (ci := 10) (C := RX10) (T := TX10) (N := 10) (v := .long y2) B inlX10 hP 0 rfl rfl 8 rfl mfl_X10_38 rfl rfl dX10_takeName_112 ?_
          refine uViJ (As := [.long y2]) (rest := [.ref a_K]) (wr := [(a_K_bytes, .inl (K 0, 1000, .inl f_K_bytes))]) (wX10_keyOf l D K _ a_K v_K_size v_K_length y1 1 v_K_place v_K_number y2 v_K_key a_K_keyNames f_K_keyNames a_K_bytes y2 (by omega) (by omega) (by omega)) B hl.1 hP hD hS [0, 2] [1] rfl rfl rfl wd_X10_keyOf mml_X10_81 rfl rfl rfl rfl ⟨Nat.le_of_ble_eq_true rfl, Nat.le_of_ble_eq_true rfl⟩ (Nat.le_of_ble_eq_true rfl) ⟨Nat.le_of_ble_eq_true rfl, Nat.le_of_ble_eq_true rfl⟩ dX10_takeName_115 (fun r7 u H locs hw hP hD hS => ?_)
          try dsimp only at hw
          have hP : va_P D vwCl [(a_K_bytes, .inl (K 0, 1000, .inl f_K_bytes)), (a_K, .inr (10, [.ref a_K_bytes, .ref a_K_keyNames, .int (nI v_K_size), .int (nI v_K_length), .int (nI y1), .int 1, .int v_K_place, .int v_K_number, .long y2, .int v_K_key])), (a_K_keyNames, .inl (K 2, 13, .inr (.inl f_K_keyNames)))] H := hP
          have hD := uDPJ hP hD
          refine uPut (ci := 10) (C := RX10) (T := TX10) (N := 10) (ws' := [(a_K_bytes, .inl (K 0, 1000, .inl f_K_bytes)), (a_K, .inr (10, [.ref a_K_bytes, .ref a_K_keyNames, .int (nI v_K_size), .int (nI v_K_length), .int (nI y1), .int 1, .int v_K_place, .int v_K_number, .long y2, .int r7])), (a_K_keyNames, .inl (K 2, 13, .inr (.inl f_K_keyNames)))]) B inlX10 tyX10_ok nmX10 hP hD hS 1 rfl rfl 9 rfl mfl_X10_42 rfl rfl rfl rfl rfl rfl dX10_takeName_118 (fun H locs hP hD hS => ?_)
          exact uRv (y1, 1, y2, r7) B (by unfold qwX10_takeName; (try dsimp only); omega) (uSub hP [1, 0, 2] rfl) (hD.sub [1, 0, 2] rfl rfl) hS dX10_takeName_121
        refine lv_iconst (v := 5) hx hb dX10_takeName_93 (by decide) ?_
        refine lv_pc (q := 94) rfl ?_
        refine lv_goto (tgt := 98) hx hb dX10_takeName_94 (by decide) ?_
        refine uPut (ci := 10) (C := RX10) (T := TX10) (N := 10) (ws' := [(a_K, .inr (10, [.ref a_K_bytes, .ref a_K_keyNames, .int (nI v_K_size), .int (nI v_K_length), .int (nI y1), .int 5, .int v_K_place, .int v_K_number, .long y2, .int v_K_key])), (a_K_bytes, .inl (K 0, 1000, .inl f_K_bytes)), (a_K_keyNames, .inl (K 2, 13, .inr (.inl f_K_keyNames)))]) B inlX10 tyX10_ok nmX10 hP hD hS 0 rfl rfl 5 rfl mfl_X10_29 rfl rfl rfl rfl rfl rfl dX10_takeName_98 (fun H locs hP hD hS => ?_)
        refine lv_aload_n hx hb dX10_takeName_101 rfl (lv_at hl 0 rfl) ?_
        refine uGet (ci := 10) (C := RX10) (T := TX10) (N := 10) (v := .int 5) B inlX10 hP 0 rfl rfl 5 rfl mfl_X10_29 rfl rfl dX10_takeName_102 ?_
        refine lv_iconst (v := 1) hx hb dX10_takeName_105 (by decide) ?_
        refine lv_icmp_ne (tgt := 121) hx hb dX10_takeName_106 (by decide) (fun _ => ?_) (fun h9 => absurd h9 (by decide))
        refine lv_pc (q := 121) rfl ?_
        exact uRv (y1, 5, y2, v_K_key) B (by unfold qwX10_takeName; (try dsimp only); omega) (uSub hP [0, 1, 2] rfl) (hD.sub [0, 1, 2] rfl rfl) hS dX10_takeName_121
      have k_5 : ¬ v_K_length ≤ y1 := fun h9 => c5 ((nI_leI (a := v_K_length) (b := y1) (by omega) (by omega)).mpr h9)
      refine lv_aload_n hx hb dX10_takeName_16 rfl (lv_at hl 0 rfl) ?_
      refine uGet (ci := 10) (C := RX10) (T := TX10) (N := 10) (v := .ref a_K_bytes) B inlX10 hP 0 rfl rfl 0 rfl mfl_X10_9 rfl rfl dX10_takeName_17 ?_
      refine lv_aload_n hx hb dX10_takeName_20 rfl (lv_at hl 0 rfl) ?_
      refine lv_pc (q := 21) rfl ?_
      refine uGet (ci := 10) (C := RX10) (T := TX10) (N := 10) (v := .int (nI y1)) B inlX10 hP 0 rfl rfl 4 rfl mfl_X10_26 rfl rfl dX10_takeName_21 ?_
      refine uIald (i := (nI y1)) (j := y1) B hP 1 rfl (nI_in (by omega) (by omega)) (nI_clamp (by omega)) dX10_takeName_24 ?_
      obtain ⟨a8, ha8, ea8⟩ := uRnat r_K_bytes y1 (by decide)
      simp only [Int32.reduceToInt] at ha8
      refine lv_fixi (y := (nI a8)) ea8 ?_
      refine uSi (As := [.int (nI a8)]) (rest := []) (wr := [(a_K, .inr (10, [.ref a_K_bytes, .ref a_K_keyNames, .int (nI v_K_size), .int (nI v_K_length), .int (nI y1), .int v_K_kind, .int v_K_place, .int v_K_number, .long y2, .int v_K_key])), (a_K_bytes, .inl (K 0, 1000, .inl f_K_bytes)), (a_K_keyNames, .inl (K 2, 13, .inr (.inl f_K_keyNames)))]) [] B hl.1 hP hD hS [] [0, 1, 2] rfl rfl rfl (wX10_isLetter l D K _ (nI a8)) wd_X10_isLetter mml_X10_65 rfl rfl ⟨Nat.le_of_ble_eq_true rfl, Nat.le_of_ble_eq_true rfl⟩ (Nat.le_of_ble_eq_true rfl) ⟨Nat.le_of_ble_eq_true rfl, Nat.le_of_ble_eq_true rfl⟩ dX10_takeName_25 (fun r9 u H locs hw hP hD hS => ?_)
      try dsimp only at hw
      have w10 := hw
      have hP : va_P D vwCl [(a_K, .inr (10, [.ref a_K_bytes, .ref a_K_keyNames, .int (nI v_K_size), .int (nI v_K_length), .int (nI y1), .int v_K_kind, .int v_K_place, .int v_K_number, .long y2, .int v_K_key])), (a_K_bytes, .inl (K 0, 1000, .inl f_K_bytes)), (a_K_keyNames, .inl (K 2, 13, .inr (.inl f_K_keyNames)))] H := hP
      have hD := uDPJ hP hD
      rcases w10 with rfl | rfl
      · refine lv_if_eq (tgt := 78) hx hb dX10_takeName_28 (by decide) (fun _ => ?_) (fun h9 => absurd (by decide) h9)
        refine lv_aload_n hx hb dX10_takeName_78 rfl (lv_at hl 0 rfl) ?_
        refine lv_aload_n hx hb dX10_takeName_79 rfl (lv_at hl 0 rfl) ?_
        refine lv_pc (q := 80) rfl ?_
        refine uGet (ci := 10) (C := RX10) (T := TX10) (N := 10) (v := .int (nI y1)) B inlX10 hP 0 rfl rfl 4 rfl mfl_X10_26 rfl rfl dX10_takeName_80 ?_
        refine lv_aload_n hx hb dX10_takeName_83 rfl (lv_at hl 0 rfl) ?_
        refine uGet (ci := 10) (C := RX10) (T := TX10) (N := 10) (v := .int v_K_place) B inlX10 hP 0 rfl rfl 6 rfl mfl_X10_32 rfl rfl dX10_takeName_84 ?_
        refine lv_isub hx hb dX10_takeName_87 ?_
        refine lv_bipush (v := 8) hx hb dX10_takeName_88 (by decide) ?_
        refine lv_icmp_le (tgt := 97) hx hb dX10_takeName_90 (by decide) (fun c11 => ?_) (fun c11 => ?_)
        · refine lv_pc (q := 97) rfl ?_
          refine lv_iconst (v := 1) hx hb dX10_takeName_97 (by decide) ?_
          refine uPut (ci := 10) (C := RX10) (T := TX10) (N := 10) (ws' := [(a_K, .inr (10, [.ref a_K_bytes, .ref a_K_keyNames, .int (nI v_K_size), .int (nI v_K_length), .int (nI y1), .int 1, .int v_K_place, .int v_K_number, .long y2, .int v_K_key])), (a_K_bytes, .inl (K 0, 1000, .inl f_K_bytes)), (a_K_keyNames, .inl (K 2, 13, .inr (.inl f_K_keyNames)))]) B inlX10 tyX10_ok nmX10 hP hD hS 0 rfl rfl 5 rfl mfl_X10_29 rfl rfl rfl rfl rfl rfl dX10_takeName_98 (fun H locs hP hD hS => ?_)
          refine lv_aload_n hx hb dX10_takeName_101 rfl (lv_at hl 0 rfl) ?_
          refine uGet (ci := 10) (C := RX10) (T := TX10) (N := 10) (v := .int 1) B inlX10 hP 0 rfl rfl 5 rfl mfl_X10_29 rfl rfl dX10_takeName_102 ?_
          refine lv_iconst (v := 1) hx hb dX10_takeName_105 (by decide) ?_
          refine lv_icmp_ne (tgt := 121) hx hb dX10_takeName_106 (by decide) (fun h9 => absurd (by decide) h9) (fun _ => ?_)
          refine lv_pc (q := 109) rfl ?_
          refine lv_aload_n hx hb dX10_takeName_109 rfl (lv_at hl 0 rfl) ?_
          refine lv_aload_n hx hb dX10_takeName_110 rfl (lv_at hl 0 rfl) ?_
          refine lv_aload_n hx hb dX10_takeName_111 rfl (lv_at hl 0 rfl) ?_
          refine uGet (ci := 10) (C := RX10) (T := TX10) (N := 10) (v := .long y2) B inlX10 hP 0 rfl rfl 8 rfl mfl_X10_38 rfl rfl dX10_takeName_112 ?_
          refine uViJ (As := [.long y2]) (rest := [.ref a_K]) (wr := [(a_K_bytes, .inl (K 0, 1000, .inl f_K_bytes))]) (wX10_keyOf l D K _ a_K v_K_size v_K_length y1 1 v_K_place v_K_number y2 v_K_key a_K_keyNames f_K_keyNames a_K_bytes y2 (by omega) (by omega) (by omega)) B hl.1 hP hD hS [0, 2] [1] rfl rfl rfl wd_X10_keyOf mml_X10_81 rfl rfl rfl rfl ⟨Nat.le_of_ble_eq_true rfl, Nat.le_of_ble_eq_true rfl⟩ (Nat.le_of_ble_eq_true rfl) ⟨Nat.le_of_ble_eq_true rfl, Nat.le_of_ble_eq_true rfl⟩ dX10_takeName_115 (fun r12 u H locs hw hP hD hS => ?_)
          try dsimp only at hw
          have hP : va_P D vwCl [(a_K_bytes, .inl (K 0, 1000, .inl f_K_bytes)), (a_K, .inr (10, [.ref a_K_bytes, .ref a_K_keyNames, .int (nI v_K_size), .int (nI v_K_length), .int (nI y1), .int 1, .int v_K_place, .int v_K_number, .long y2, .int v_K_key])), (a_K_keyNames, .inl (K 2, 13, .inr (.inl f_K_keyNames)))] H := hP
          have hD := uDPJ hP hD
          refine uPut (ci := 10) (C := RX10) (T := TX10) (N := 10) (ws' := [(a_K_bytes, .inl (K 0, 1000, .inl f_K_bytes)), (a_K, .inr (10, [.ref a_K_bytes, .ref a_K_keyNames, .int (nI v_K_size), .int (nI v_K_length), .int (nI y1), .int 1, .int v_K_place, .int v_K_number, .long y2, .int r12])), (a_K_keyNames, .inl (K 2, 13, .inr (.inl f_K_keyNames)))]) B inlX10 tyX10_ok nmX10 hP hD hS 1 rfl rfl 9 rfl mfl_X10_42 rfl rfl rfl rfl rfl rfl dX10_takeName_118 (fun H locs hP hD hS => ?_)
          refine lv_pc (q := 121) rfl ?_
          exact uRv (y1, 1, y2, r12) B (by unfold qwX10_takeName; (try dsimp only); omega) (uSub hP [1, 0, 2] rfl) (hD.sub [1, 0, 2] rfl rfl) hS dX10_takeName_121
        refine lv_pc (q := 93) rfl ?_
        refine lv_iconst (v := 5) hx hb dX10_takeName_93 (by decide) ?_
        refine lv_goto (tgt := 98) hx hb dX10_takeName_94 (by decide) ?_
        refine uPut (ci := 10) (C := RX10) (T := TX10) (N := 10) (ws' := [(a_K, .inr (10, [.ref a_K_bytes, .ref a_K_keyNames, .int (nI v_K_size), .int (nI v_K_length), .int (nI y1), .int 5, .int v_K_place, .int v_K_number, .long y2, .int v_K_key])), (a_K_bytes, .inl (K 0, 1000, .inl f_K_bytes)), (a_K_keyNames, .inl (K 2, 13, .inr (.inl f_K_keyNames)))]) B inlX10 tyX10_ok nmX10 hP hD hS 0 rfl rfl 5 rfl mfl_X10_29 rfl rfl rfl rfl rfl rfl dX10_takeName_98 (fun H locs hP hD hS => ?_)
        refine lv_aload_n hx hb dX10_takeName_101 rfl (lv_at hl 0 rfl) ?_
        refine uGet (ci := 10) (C := RX10) (T := TX10) (N := 10) (v := .int 5) B inlX10 hP 0 rfl rfl 5 rfl mfl_X10_29 rfl rfl dX10_takeName_102 ?_
        refine lv_iconst (v := 1) hx hb dX10_takeName_105 (by decide) ?_
        refine lv_pc (q := 106) rfl ?_
        refine lv_icmp_ne (tgt := 121) hx hb dX10_takeName_106 (by decide) (fun _ => ?_) (fun h9 => absurd h9 (by decide))
        exact uRv (y1, 5, y2, v_K_key) B (by unfold qwX10_takeName; (try dsimp only); omega) (uSub hP [0, 1, 2] rfl) (hD.sub [0, 1, 2] rfl rfl) hS dX10_takeName_121
      refine lv_if_eq (tgt := 78) hx hb dX10_takeName_28 (by decide) (fun h9 => absurd h9 (by decide)) (fun _ => ?_)
      refine lv_aload_n hx hb dX10_takeName_31 rfl (lv_at hl 0 rfl) ?_
      refine uGet (ci := 10) (C := RX10) (T := TX10) (N := 10) (v := .int (nI y1)) B inlX10 hP 0 rfl rfl 4 rfl mfl_X10_26 rfl rfl dX10_takeName_32 ?_
      refine lv_pc (q := 35) rfl ?_
      refine lv_aload_n hx hb dX10_takeName_35 rfl (lv_at hl 0 rfl) ?_
      refine uGet (ci := 10) (C := RX10) (T := TX10) (N := 10) (v := .int v_K_place) B inlX10 hP 0 rfl rfl 6 rfl mfl_X10_32 rfl rfl dX10_takeName_36 ?_
      refine lv_isub hx hb dX10_takeName_39 ?_
      refine lv_bipush (v := 8) hx hb dX10_takeName_40 (by decide) ?_
      refine lv_icmp_ge (tgt := 65) hx hb dX10_takeName_42 (by decide) (fun c13 => ?_) (fun c13 => ?_)
      · refine lv_aload_n hx hb dX10_takeName_65 rfl (lv_at hl 0 rfl) ?_
        refine lv_pc (q := 66) rfl ?_
        refine lv_dup hx hb dX10_takeName_66 rfl ?_
        refine uGet (ci := 10) (C := RX10) (T := TX10) (N := 10) (v := .int (nI y1)) B inlX10 hP 0 rfl rfl 4 rfl mfl_X10_26 rfl rfl dX10_takeName_67 ?_
        refine lv_iconst (v := 1) hx hb dX10_takeName_70 (by decide) ?_
        refine lv_iadd hx hb dX10_takeName_71 ?_
        refine lv_fixi (y := (nI (y1 + 1))) (by rw [show (1 : Int32) = nI 1 from rfl, nI_add]) ?_
        refine uPut (ci := 10) (C := RX10) (T := TX10) (N := 10) (ws' := [(a_K, .inr (10, [.ref a_K_bytes, .ref a_K_keyNames, .int (nI v_K_size), .int (nI v_K_length), .int (nI (y1 + 1)), .int v_K_kind, .int v_K_place, .int v_K_number, .long y2, .int v_K_key])), (a_K_bytes, .inl (K 0, 1000, .inl f_K_bytes)), (a_K_keyNames, .inl (K 2, 13, .inr (.inl f_K_keyNames)))]) B inlX10 tyX10_ok nmX10 hP hD hS 0 rfl rfl 4 rfl mfl_X10_26 rfl rfl rfl rfl rfl rfl dX10_takeName_72 (fun H locs hP hD hS => ?_)
        refine lv_goto (tgt := 5) hx hb dX10_takeName_75 (by decide) ?_
        refine lv_pc (q := 5) rfl ?_
        refine W.widen (k := 0) (n := 0) (Nat.le_of_ble_eq_true rfl) (Nat.le_of_ble_eq_true rfl) ?_
        exact ih5 (y1 + 1) y2 (by omega) (by omega) _ _ _ (uSub hP [0, 1, 2] rfl) (hD.sub [0, 1, 2] rfl rfl) hS (lv_sub hl [0] rfl)
      refine lv_aload_n hx hb dX10_takeName_45 rfl (lv_at hl 0 rfl) ?_
      refine lv_pc (q := 46) rfl ?_
      refine lv_aload_n hx hb dX10_takeName_46 rfl (lv_at hl 0 rfl) ?_
      refine uGet (ci := 10) (C := RX10) (T := TX10) (N := 10) (v := .long y2) B inlX10 hP 0 rfl rfl 8 rfl mfl_X10_38 rfl rfl dX10_takeName_47 ?_
      refine lv_aload_n hx hb dX10_takeName_50 rfl (lv_at hl 0 rfl) ?_
      refine uGet (ci := 10) (C := RX10) (T := TX10) (N := 10) (v := .ref a_K_bytes) B inlX10 hP 0 rfl rfl 0 rfl mfl_X10_9 rfl rfl dX10_takeName_51 ?_
      refine lv_aload_n hx hb dX10_takeName_54 rfl (lv_at hl 0 rfl) ?_
      refine uGet (ci := 10) (C := RX10) (T := TX10) (N := 10) (v := .int (nI y1)) B inlX10 hP 0 rfl rfl 4 rfl mfl_X10_26 rfl rfl dX10_takeName_55 ?_
      refine lv_pc (q := 58) rfl ?_
      refine uIald (i := (nI y1)) (j := y1) B hP 1 rfl (nI_in (by omega) (by omega)) (nI_clamp (by omega)) dX10_takeName_58 ?_
      obtain ⟨a14, ha14, ea14⟩ := uRnat r_K_bytes y1 (by decide)
      simp only [Int32.reduceToInt] at ha14
      refine lv_fixi (y := (nI a14)) ea14 ?_
      refine uSl (As := [.long y2, .int (nI a14)]) (rest := [.ref a_K]) (wr := [(a_K, .inr (10, [.ref a_K_bytes, .ref a_K_keyNames, .int (nI v_K_size), .int (nI v_K_length), .int (nI y1), .int v_K_kind, .int v_K_place, .int v_K_number, .long y2, .int v_K_key])), (a_K_bytes, .inl (K 0, 1000, .inl f_K_bytes)), (a_K_keyNames, .inl (K 2, 13, .inr (.inl f_K_keyNames)))]) [] B hl.1 hP hD hS [] [0, 1, 2] rfl rfl rfl (wX10_withLetter l D K _ y2 (nI a14)) wd_X10_withLetter mml_X10_56 rfl rfl ⟨Nat.le_of_ble_eq_true rfl, Nat.le_of_ble_eq_true rfl⟩ (Nat.le_of_ble_eq_true rfl) ⟨Nat.le_of_ble_eq_true rfl, Nat.le_of_ble_eq_true rfl⟩ dX10_takeName_59 (fun r15 u H locs hw hP hD hS => ?_)
      try dsimp only at hw
      have hP : va_P D vwCl [(a_K, .inr (10, [.ref a_K_bytes, .ref a_K_keyNames, .int (nI v_K_size), .int (nI v_K_length), .int (nI y1), .int v_K_kind, .int v_K_place, .int v_K_number, .long y2, .int v_K_key])), (a_K_bytes, .inl (K 0, 1000, .inl f_K_bytes)), (a_K_keyNames, .inl (K 2, 13, .inr (.inl f_K_keyNames)))] H := hP
      have hD := uDPJ hP hD
      refine uPut (ci := 10) (C := RX10) (T := TX10) (N := 10) (ws' := [(a_K, .inr (10, [.ref a_K_bytes, .ref a_K_keyNames, .int (nI v_K_size), .int (nI v_K_length), .int (nI y1), .int v_K_kind, .int v_K_place, .int v_K_number, .long r15, .int v_K_key])), (a_K_bytes, .inl (K 0, 1000, .inl f_K_bytes)), (a_K_keyNames, .inl (K 2, 13, .inr (.inl f_K_keyNames)))]) B inlX10 tyX10_ok nmX10 hP hD hS 0 rfl rfl 8 rfl mfl_X10_38 rfl rfl rfl rfl rfl rfl dX10_takeName_62 (fun H locs hP hD hS => ?_)
      refine lv_aload_n hx hb dX10_takeName_65 rfl (lv_at hl 0 rfl) ?_
      refine lv_dup hx hb dX10_takeName_66 rfl ?_
      refine uGet (ci := 10) (C := RX10) (T := TX10) (N := 10) (v := .int (nI y1)) B inlX10 hP 0 rfl rfl 4 rfl mfl_X10_26 rfl rfl dX10_takeName_67 ?_
      refine lv_pc (q := 70) rfl ?_
      refine lv_iconst (v := 1) hx hb dX10_takeName_70 (by decide) ?_
      refine lv_iadd hx hb dX10_takeName_71 ?_
      refine lv_fixi (y := (nI (y1 + 1))) (by rw [show (1 : Int32) = nI 1 from rfl, nI_add]) ?_
      refine uPut (ci := 10) (C := RX10) (T := TX10) (N := 10) (ws' := [(a_K, .inr (10, [.ref a_K_bytes, .ref a_K_keyNames, .int (nI v_K_size), .int (nI v_K_length), .int (nI (y1 + 1)), .int v_K_kind, .int v_K_place, .int v_K_number, .long r15, .int v_K_key])), (a_K_bytes, .inl (K 0, 1000, .inl f_K_bytes)), (a_K_keyNames, .inl (K 2, 13, .inr (.inl f_K_keyNames)))]) B inlX10 tyX10_ok nmX10 hP hD hS 0 rfl rfl 4 rfl mfl_X10_26 rfl rfl rfl rfl rfl rfl dX10_takeName_72 (fun H locs hP hD hS => ?_)
      refine lv_goto (tgt := 5) hx hb dX10_takeName_75 (by decide) ?_
      refine lv_pc (q := 5) rfl ?_
      refine W.widen (k := 0) (n := 0) (Nat.le_of_ble_eq_true rfl) (Nat.le_of_ble_eq_true rfl) ?_
      exact ih5 (y1 + 1) r15 (by omega) (by omega) _ _ _ (uSub hP [0, 1, 2] rfl) (hD.sub [0, 1, 2] rfl rfl) hS (lv_sub hl [0] rfl)
  refine lv_pc (q := 5) rfl ?_
  refine W.widen (k := 0) (n := 0) (Nat.le_of_ble_eq_true rfl) (Nat.le_of_ble_eq_true rfl) ?_
  exact L4 ((v_K_length - v_K_next) + 1) v_K_next 0 (by omega) (Nat.lt_succ_self _) _ _ _ hP hD hS hl
def qwX10_advance (a_K : Nat) (v_K_size : Nat) (v_K_length : Nat) (v_K_next : Nat) (v_K_kind : Int32) (v_K_place : Int32) (v_K_number : Int32) (v_K_name : Int64) (v_K_key : Int32) (a_K_bytes : Nat) (f_K_bytes : Nat → Int32) (a_K_keyNames : Nat) (f_K_keyNames : Nat → Int64) : (Nat × Int32 × Int32 × Int32 × Int64 × Int32) → Prop := (fun (u : Nat × Int32 × Int32 × Int32 × Int64 × Int32) => (u.1 ≤ 1000))
def vwX10_advance (K : Nat → ClassId) (a_K : Nat) (v_K_size : Nat) (v_K_length : Nat) (v_K_next : Nat) (v_K_kind : Int32) (v_K_place : Int32) (v_K_number : Int32) (v_K_name : Int64) (v_K_key : Int32) (a_K_bytes : Nat) (f_K_bytes : Nat → Int32) (a_K_keyNames : Nat) (f_K_keyNames : Nat → Int64) : (Nat × Int32 × Int32 × Int32 × Int64 × Int32) → va_W := (fun (u : Nat × Int32 × Int32 × Int32 × Int64 × Int32) => [(a_K, .inr (10, [.ref a_K_bytes, .ref a_K_keyNames, .int (nI v_K_size), .int (nI v_K_length), .int (nI ((u.1))), .int u.2.1, .int u.2.2.1, .int u.2.2.2.1, .long u.2.2.2.2.1, .int u.2.2.2.2.2])), (a_K_bytes, .inl (K 0, 1000, .inl f_K_bytes)), (a_K_keyNames, .inl (K 2, 13, .inr (.inl f_K_keyNames)))])
set_option maxHeartbeats 4000000 in
set_option maxRecDepth 100000 in
theorem wX10_advance (l : Launch) (D : va_G) (K : Nat → ClassId) (sz : Nat) (a_K : Nat) (v_K_size : Nat) (v_K_length : Nat) (v_K_next : Nat) (v_K_kind : Int32) (v_K_place : Int32) (v_K_number : Int32) (v_K_name : Int64) (v_K_key : Int32) (a_K_bytes : Nat) (f_K_bytes : Nat → Int32) (a_K_keyNames : Nat) (f_K_keyNames : Nat → Int64) (hv_K_size : v_K_size ≤ 1000) (hv_K_length : v_K_length ≤ 1000) (hv_K_next : v_K_next ≤ 1000) (r_K_bytes : uRg f_K_bytes 0 255) : uMv l yX10_advance cX10_advance 1 { frames := 2, cells := 0, slots := 0, locals := 43 } [.ref a_K] D K [(a_K, .inr (10, [.ref a_K_bytes, .ref a_K_keyNames, .int (nI v_K_size), .int (nI v_K_length), .int (nI v_K_next), .int v_K_kind, .int v_K_place, .int v_K_number, .long v_K_name, .int v_K_key])), (a_K_bytes, .inl (K 0, 1000, .inl f_K_bytes)), (a_K_keyNames, .inl (K 2, 13, .inr (.inl f_K_keyNames)))] sz (qwX10_advance a_K v_K_size v_K_length v_K_next v_K_kind v_K_place v_K_number v_K_name v_K_key a_K_bytes f_K_bytes a_K_keyNames f_K_keyNames) (vwX10_advance K a_K v_K_size v_K_length v_K_next v_K_kind v_K_place v_K_number v_K_name v_K_key a_K_bytes f_K_bytes a_K_keyNames f_K_keyNames) := by
  refine uMet (Qc := uQv D (qwX10_advance a_K v_K_size v_K_length v_K_next v_K_kind v_K_place v_K_number v_K_name v_K_key a_K_bytes f_K_bytes a_K_keyNames f_K_keyNames) (vwX10_advance K a_K v_K_size v_K_length v_K_next v_K_kind v_K_place v_K_number v_K_name v_K_key a_K_bytes f_K_bytes a_K_keyNames f_K_keyNames)) (ret := none) (by decide) (Nat.le_of_ble_eq_true rfl) ?_
  intro p e s m below meth c A ls hAe hsz B hP hD hS hl
  have hx := B.1
  have hb := B.2.1
  have hl : lv_has ls 1 [(0, .ref a_K)] := hl
  have L3 : ∀ (n9 : Nat) (y1 : Nat), (y1 ≤ 1000) → v_K_length - y1 < n9 → ∀ (H : Heap) (locs : List Loc) (ls : Array Slot), va_P D vwCl [(a_K, .inr (10, [.ref a_K_bytes, .ref a_K_keyNames, .int (nI v_K_size), .int (nI v_K_length), .int (nI y1), .int v_K_kind, .int v_K_place, .int v_K_number, .long v_K_name, .int v_K_key])), (a_K_bytes, .inl (K 0, 1000, .inl f_K_bytes)), (a_K_keyNames, .inl (K 2, 13, .inr (.inl f_K_keyNames)))] H → va_D A [(a_K, .inr (10, [.ref a_K_bytes, .ref a_K_keyNames, .int (nI v_K_size), .int (nI v_K_length), .int (nI y1), .int v_K_kind, .int v_K_place, .int v_K_number, .long v_K_name, .int v_K_key])), (a_K_bytes, .inl (K 0, 1000, .inl f_K_bytes)), (a_K_keyNames, .inl (K 2, 13, .inr (.inl f_K_keyNames)))] → va_S A s.heap H locs → lv_has ls 1 [(0, .ref a_K)] → W p l e { frames := 2, cells := 0, slots := 0, locals := 43 } s m ([.ref a_K] : List Value).toArray below meth c H locs 0 0 (MQ below (uQv D (qwX10_advance a_K v_K_size v_K_length v_K_next v_K_kind v_K_place v_K_number v_K_name v_K_key a_K_bytes f_K_bytes a_K_keyNames f_K_keyNames) (vwX10_advance K a_K v_K_size v_K_length v_K_next v_K_kind v_K_place v_K_number v_K_name v_K_key a_K_bytes f_K_bytes a_K_keyNames f_K_keyNames) A) ([.ref a_K] : List Value).toArray s 0 0 A) (F0 m 0 ls []) := by
    intro n9
    induction n9 with
    | zero => intros; exact absurd ‹_ < 0› (Nat.not_lt_zero _)
    | succ n0_ ih0 =>
      intro y1 hy1 hm0 H locs ls hP hD hS hl
      refine lv_aload_n hx hb dX10_advance_0 rfl (lv_at hl 0 rfl) ?_
      refine uGet (ci := 10) (C := RX10) (T := TX10) (N := 10) (v := .int (nI y1)) B inlX10 hP 0 rfl rfl 4 rfl mfl_X10_26 rfl rfl dX10_advance_1 ?_
      refine lv_aload_n hx hb dX10_advance_4 rfl (lv_at hl 0 rfl) ?_
      refine uGet (ci := 10) (C := RX10) (T := TX10) (N := 10) (v := .int (nI v_K_length)) B inlX10 hP 0 rfl rfl 3 rfl mfl_X10_23 rfl rfl dX10_advance_5 ?_
      refine lv_icmp_ge (tgt := 52) hx hb dX10_advance_8 (by decide) (fun c4 => ?_) (fun c4 => ?_)
      · have k_4 : v_K_length ≤ y1 := (nI_leI (a := v_K_length) (b := y1) (by omega) (by omega)).mp c4
        refine lv_pc (q := 52) rfl ?_
        refine lv_aload_n hx hb dX10_advance_52 rfl (lv_at hl 0 rfl) ?_
        refine lv_aload_n hx hb dX10_advance_53 rfl (lv_at hl 0 rfl) ?_
        refine uGet (ci := 10) (C := RX10) (T := TX10) (N := 10) (v := .int (nI y1)) B inlX10 hP 0 rfl rfl 4 rfl mfl_X10_26 rfl rfl dX10_advance_54 ?_
        refine uPut (ci := 10) (C := RX10) (T := TX10) (N := 10) (ws' := [(a_K, .inr (10, [.ref a_K_bytes, .ref a_K_keyNames, .int (nI v_K_size), .int (nI v_K_length), .int (nI y1), .int v_K_kind, .int (nI y1), .int v_K_number, .long v_K_name, .int v_K_key])), (a_K_bytes, .inl (K 0, 1000, .inl f_K_bytes)), (a_K_keyNames, .inl (K 2, 13, .inr (.inl f_K_keyNames)))]) B inlX10 tyX10_ok nmX10 hP hD hS 0 rfl rfl 6 rfl mfl_X10_32 rfl rfl rfl rfl rfl rfl dX10_advance_57 (fun H locs hP hD hS => ?_)
        refine lv_aload_n hx hb dX10_advance_60 rfl (lv_at hl 0 rfl) ?_
        refine lv_iconst (v := (-1)) hx hb dX10_advance_61 (by decide) ?_
        refine lv_pc (q := 62) rfl ?_
        refine uPut (ci := 10) (C := RX10) (T := TX10) (N := 10) (ws' := [(a_K, .inr (10, [.ref a_K_bytes, .ref a_K_keyNames, .int (nI v_K_size), .int (nI v_K_length), .int (nI y1), .int v_K_kind, .int (nI y1), .int v_K_number, .long v_K_name, .int (-1)])), (a_K_bytes, .inl (K 0, 1000, .inl f_K_bytes)), (a_K_keyNames, .inl (K 2, 13, .inr (.inl f_K_keyNames)))]) B inlX10 tyX10_ok nmX10 hP hD hS 0 rfl rfl 9 rfl mfl_X10_42 rfl rfl rfl rfl rfl rfl dX10_advance_62 (fun H locs hP hD hS => ?_)
        refine lv_aload_n hx hb dX10_advance_65 rfl (lv_at hl 0 rfl) ?_
        refine uGet (ci := 10) (C := RX10) (T := TX10) (N := 10) (v := .int (nI y1)) B inlX10 hP 0 rfl rfl 4 rfl mfl_X10_26 rfl rfl dX10_advance_66 ?_
        refine lv_aload_n hx hb dX10_advance_69 rfl (lv_at hl 0 rfl) ?_
        refine uGet (ci := 10) (C := RX10) (T := TX10) (N := 10) (v := .int (nI v_K_length)) B inlX10 hP 0 rfl rfl 3 rfl mfl_X10_23 rfl rfl dX10_advance_70 ?_
        refine lv_icmp_lt (tgt := 84) hx hb dX10_advance_73 (by decide) (fun c5 => ?_) (fun c5 => ?_)
        · have k_5 : y1 < v_K_length := (nI_ltI (a := y1) (b := v_K_length) (by omega) (by omega)).mp c5
          refine lv_pc (q := 84) rfl ?_
          refine lv_aload_n hx hb dX10_advance_84 rfl (lv_at hl 0 rfl) ?_
          refine uGet (ci := 10) (C := RX10) (T := TX10) (N := 10) (v := .ref a_K_bytes) B inlX10 hP 0 rfl rfl 0 rfl mfl_X10_9 rfl rfl dX10_advance_85 ?_
          refine lv_aload_n hx hb dX10_advance_88 rfl (lv_at hl 0 rfl) ?_
          refine uGet (ci := 10) (C := RX10) (T := TX10) (N := 10) (v := .int (nI y1)) B inlX10 hP 0 rfl rfl 4 rfl mfl_X10_26 rfl rfl dX10_advance_89 ?_
          refine uIald (i := (nI y1)) (j := y1) B hP 1 rfl (nI_in (by omega) (by omega)) (nI_clamp (by omega)) dX10_advance_92 ?_
          obtain ⟨a6, ha6, ea6⟩ := uRnat r_K_bytes y1 (by decide)
          simp only [Int32.reduceToInt] at ha6
          refine lv_fixi (y := (nI a6)) ea6 ?_
          refine uSi (As := [.int (nI a6)]) (rest := []) (wr := [(a_K, .inr (10, [.ref a_K_bytes, .ref a_K_keyNames, .int (nI v_K_size), .int (nI v_K_length), .int (nI y1), .int v_K_kind, .int (nI y1), .int v_K_number, .long v_K_name, .int (-1)])), (a_K_bytes, .inl (K 0, 1000, .inl f_K_bytes)), (a_K_keyNames, .inl (K 2, 13, .inr (.inl f_K_keyNames)))]) [] B hl.1 hP hD hS [] [0, 1, 2] rfl rfl rfl (wX10_isLetter l D K _ (nI a6)) wd_X10_isLetter mml_X10_65 rfl rfl ⟨Nat.le_of_ble_eq_true rfl, Nat.le_of_ble_eq_true rfl⟩ (Nat.le_of_ble_eq_true rfl) ⟨Nat.le_of_ble_eq_true rfl, Nat.le_of_ble_eq_true rfl⟩ dX10_advance_93 (fun r7 u H locs hw hP hD hS => ?_)
          try dsimp only at hw
          have w8 := hw
          have hP : va_P D vwCl [(a_K, .inr (10, [.ref a_K_bytes, .ref a_K_keyNames, .int (nI v_K_size), .int (nI v_K_length), .int (nI y1), .int v_K_kind, .int (nI y1), .int v_K_number, .long v_K_name, .int (-1)])), (a_K_bytes, .inl (K 0, 1000, .inl f_K_bytes)), (a_K_keyNames, .inl (K 2, 13, .inr (.inl f_K_keyNames)))] H := hP
          have hD := uDPJ hP hD
          rcases w8 with rfl | rfl
          · refine lv_pc (q := 96) rfl ?_
            refine lv_if_eq (tgt := 106) hx hb dX10_advance_96 (by decide) (fun _ => ?_) (fun h9 => absurd (by decide) h9)
            refine lv_aload_n hx hb dX10_advance_106 rfl (lv_at hl 0 rfl) ?_
            refine uGet (ci := 10) (C := RX10) (T := TX10) (N := 10) (v := .ref a_K_bytes) B inlX10 hP 0 rfl rfl 0 rfl mfl_X10_9 rfl rfl dX10_advance_107 ?_
            refine lv_aload_n hx hb dX10_advance_110 rfl (lv_at hl 0 rfl) ?_
            refine uGet (ci := 10) (C := RX10) (T := TX10) (N := 10) (v := .int (nI y1)) B inlX10 hP 0 rfl rfl 4 rfl mfl_X10_26 rfl rfl dX10_advance_111 ?_
            refine uIald (i := (nI y1)) (j := y1) B hP 1 rfl (nI_in (by omega) (by omega)) (nI_clamp (by omega)) dX10_advance_114 ?_
            obtain ⟨a9, ha9, ea9⟩ := uRnat r_K_bytes y1 (by decide)
            simp only [Int32.reduceToInt] at ha9
            refine lv_fixi (y := (nI a9)) ea9 ?_
            refine lv_pc (q := 115) rfl ?_
            refine uSi (As := [.int (nI a9)]) (rest := []) (wr := [(a_K, .inr (10, [.ref a_K_bytes, .ref a_K_keyNames, .int (nI v_K_size), .int (nI v_K_length), .int (nI y1), .int v_K_kind, .int (nI y1), .int v_K_number, .long v_K_name, .int (-1)])), (a_K_bytes, .inl (K 0, 1000, .inl f_K_bytes)), (a_K_keyNames, .inl (K 2, 13, .inr (.inl f_K_keyNames)))]) [] B hl.1 hP hD hS [] [0, 1, 2] rfl rfl rfl (wX10_isDigit l D K _ (nI a9)) wd_X10_isDigit mml_X10_72 rfl rfl ⟨Nat.le_of_ble_eq_true rfl, Nat.le_of_ble_eq_true rfl⟩ (Nat.le_of_ble_eq_true rfl) ⟨Nat.le_of_ble_eq_true rfl, Nat.le_of_ble_eq_true rfl⟩ dX10_advance_115 (fun r10 u H locs hw hP hD hS => ?_)
            try dsimp only at hw
            have w11 := hw
            have hP : va_P D vwCl [(a_K, .inr (10, [.ref a_K_bytes, .ref a_K_keyNames, .int (nI v_K_size), .int (nI v_K_length), .int (nI y1), .int v_K_kind, .int (nI y1), .int v_K_number, .long v_K_name, .int (-1)])), (a_K_bytes, .inl (K 0, 1000, .inl f_K_bytes)), (a_K_keyNames, .inl (K 2, 13, .inr (.inl f_K_keyNames)))] H := hP
            have hD := uDPJ hP hD
            rcases w11 with rfl | rfl
            · refine lv_if_eq (tgt := 128) hx hb dX10_advance_118 (by decide) (fun _ => ?_) (fun h9 => absurd (by decide) h9)
              refine lv_aload_n hx hb dX10_advance_128 rfl (lv_at hl 0 rfl) ?_
              refine uVvJ (As := []) (rest := []) (wr := [(a_K_keyNames, .inl (K 2, 13, .inr (.inl f_K_keyNames)))]) (wX10_takeMark l D K _ a_K v_K_size v_K_length y1 v_K_kind (nI y1) v_K_number v_K_name (-1) a_K_bytes f_K_bytes a_K_keyNames (by omega) (by omega) (by omega) r_K_bytes (by omega)) B hl.1 hP hD hS [0, 1] [2] rfl rfl rfl wd_X10_takeMark mml_X10_78 rfl rfl rfl rfl ⟨Nat.le_of_ble_eq_true rfl, Nat.le_of_ble_eq_true rfl⟩ (Nat.le_of_ble_eq_true rfl) ⟨Nat.le_of_ble_eq_true rfl, Nat.le_of_ble_eq_true rfl⟩ dX10_advance_129 (fun u H locs hw hP hD hS => ?_)
              obtain ⟨u13, u14⟩ := u
              try dsimp only at hw
              have w15 : u13 ≤ 1000 := hw
              have hP : va_P D vwCl [(a_K_keyNames, .inl (K 2, 13, .inr (.inl f_K_keyNames))), (a_K, .inr (10, [.ref a_K_bytes, .ref a_K_keyNames, .int (nI v_K_size), .int (nI v_K_length), .int (nI u13), .int u14, .int (nI y1), .int v_K_number, .long v_K_name, .int (-1)])), (a_K_bytes, .inl (K 0, 1000, .inl f_K_bytes))] H := hP
              have hD := uDPJ hP hD
              exact uRv (u13, u14, nI y1, v_K_number, v_K_name, (-1)) B (by unfold qwX10_advance; (try dsimp only); omega) (uSub hP [1, 2, 0] rfl) (hD.sub [1, 2, 0] rfl rfl) hS dX10_advance_132
            refine lv_if_eq (tgt := 128) hx hb dX10_advance_118 (by decide) (fun h9 => absurd h9 (by decide)) (fun _ => ?_)
            refine lv_aload_n hx hb dX10_advance_121 rfl (lv_at hl 0 rfl) ?_
            refine uVvJ (As := []) (rest := []) (wr := [(a_K_keyNames, .inl (K 2, 13, .inr (.inl f_K_keyNames)))]) (wX10_takeNumber l D K _ a_K v_K_size v_K_length y1 v_K_kind (nI y1) v_K_number v_K_name (-1) a_K_bytes f_K_bytes a_K_keyNames (by omega) (by omega) (by omega) r_K_bytes) B hl.1 hP hD hS [0, 1] [2] rfl rfl rfl wd_X10_takeNumber mml_X10_75 rfl rfl rfl rfl ⟨Nat.le_of_ble_eq_true rfl, Nat.le_of_ble_eq_true rfl⟩ (Nat.le_of_ble_eq_true rfl) ⟨Nat.le_of_ble_eq_true rfl, Nat.le_of_ble_eq_true rfl⟩ dX10_advance_122 (fun u H locs hw hP hD hS => ?_)
            obtain ⟨u17, u18, u19⟩ := u
            try dsimp only at hw
            have w20 : u17 ≤ 1000 := hw
            have hP : va_P D vwCl [(a_K_keyNames, .inl (K 2, 13, .inr (.inl f_K_keyNames))), (a_K, .inr (10, [.ref a_K_bytes, .ref a_K_keyNames, .int (nI v_K_size), .int (nI v_K_length), .int (nI u17), .int u18, .int (nI y1), .int u19, .long v_K_name, .int (-1)])), (a_K_bytes, .inl (K 0, 1000, .inl f_K_bytes))] H := hP
            have hD := uDPJ hP hD
            refine lv_goto (tgt := 132) hx hb dX10_advance_125 (by decide) ?_
            exact uRv (u17, u18, nI y1, u19, v_K_name, (-1)) B (by unfold qwX10_advance; (try dsimp only); omega) (uSub hP [1, 2, 0] rfl) (hD.sub [1, 2, 0] rfl rfl) hS dX10_advance_132
          refine lv_pc (q := 96) rfl ?_
          refine lv_if_eq (tgt := 106) hx hb dX10_advance_96 (by decide) (fun h9 => absurd h9 (by decide)) (fun _ => ?_)
          refine lv_aload_n hx hb dX10_advance_99 rfl (lv_at hl 0 rfl) ?_
          refine uVvJ (As := []) (rest := []) (wr := []) (wX10_takeName l D K _ a_K v_K_size v_K_length y1 v_K_kind (nI y1) v_K_number v_K_name (-1) a_K_bytes f_K_bytes a_K_keyNames f_K_keyNames (by omega) (by omega) (by omega) r_K_bytes) B hl.1 hP hD hS [0, 1, 2] [] rfl rfl rfl wd_X10_takeName mml_X10_69 rfl rfl rfl rfl ⟨Nat.le_of_ble_eq_true rfl, Nat.le_of_ble_eq_true rfl⟩ (Nat.le_of_ble_eq_true rfl) ⟨Nat.le_of_ble_eq_true rfl, Nat.le_of_ble_eq_true rfl⟩ dX10_advance_100 (fun u H locs hw hP hD hS => ?_)
          obtain ⟨u22, u23, u24, u25⟩ := u
          try dsimp only at hw
          have w26 : u22 ≤ 1000 := hw
          have hP : va_P D vwCl [(a_K, .inr (10, [.ref a_K_bytes, .ref a_K_keyNames, .int (nI v_K_size), .int (nI v_K_length), .int (nI u22), .int u23, .int (nI y1), .int v_K_number, .long u24, .int u25])), (a_K_bytes, .inl (K 0, 1000, .inl f_K_bytes)), (a_K_keyNames, .inl (K 2, 13, .inr (.inl f_K_keyNames)))] H := hP
          have hD := uDPJ hP hD
          refine lv_goto (tgt := 132) hx hb dX10_advance_103 (by decide) ?_
          exact uRv (u22, u23, nI y1, v_K_number, u24, u25) B (by unfold qwX10_advance; (try dsimp only); omega) (uSub hP [0, 1, 2] rfl) (hD.sub [0, 1, 2] rfl rfl) hS dX10_advance_132
        have k_5 : ¬ y1 < v_K_length := fun h9 => c5 ((nI_ltI (a := y1) (b := v_K_length) (by omega) (by omega)).mpr h9)
        refine lv_pc (q := 76) rfl ?_
        refine lv_aload_n hx hb dX10_advance_76 rfl (lv_at hl 0 rfl) ?_
        refine lv_iconst (v := 0) hx hb dX10_advance_77 (by decide) ?_
        refine uPut (ci := 10) (C := RX10) (T := TX10) (N := 10) (ws' := [(a_K, .inr (10, [.ref a_K_bytes, .ref a_K_keyNames, .int (nI v_K_size), .int (nI v_K_length), .int (nI y1), .int 0, .int (nI y1), .int v_K_number, .long v_K_name, .int (-1)])), (a_K_bytes, .inl (K 0, 1000, .inl f_K_bytes)), (a_K_keyNames, .inl (K 2, 13, .inr (.inl f_K_keyNames)))]) B inlX10 tyX10_ok nmX10 hP hD hS 0 rfl rfl 5 rfl mfl_X10_29 rfl rfl rfl rfl rfl rfl dX10_advance_78 (fun H locs hP hD hS => ?_)
        refine lv_goto (tgt := 132) hx hb dX10_advance_81 (by decide) ?_
        exact uRv (y1, 0, nI y1, v_K_number, v_K_name, (-1)) B (by unfold qwX10_advance; (try dsimp only); omega) (uSub hP [0, 1, 2] rfl) (hD.sub [0, 1, 2] rfl rfl) hS dX10_advance_132
      have k_4 : ¬ v_K_length ≤ y1 := fun h9 => c4 ((nI_leI (a := v_K_length) (b := y1) (by omega) (by omega)).mpr h9)
      refine lv_pc (q := 11) rfl ?_
      refine lv_aload_n hx hb dX10_advance_11 rfl (lv_at hl 0 rfl) ?_
      refine uGet (ci := 10) (C := RX10) (T := TX10) (N := 10) (v := .ref a_K_bytes) B inlX10 hP 0 rfl rfl 0 rfl mfl_X10_9 rfl rfl dX10_advance_12 ?_
      refine lv_aload_n hx hb dX10_advance_15 rfl (lv_at hl 0 rfl) ?_
      refine uGet (ci := 10) (C := RX10) (T := TX10) (N := 10) (v := .int (nI y1)) B inlX10 hP 0 rfl rfl 4 rfl mfl_X10_26 rfl rfl dX10_advance_16 ?_
      refine uIald (i := (nI y1)) (j := y1) B hP 1 rfl (nI_in (by omega) (by omega)) (nI_clamp (by omega)) dX10_advance_19 ?_
      obtain ⟨a27, ha27, ea27⟩ := uRnat r_K_bytes y1 (by decide)
      simp only [Int32.reduceToInt] at ha27
      refine lv_fixi (y := (nI a27)) ea27 ?_
      refine lv_bipush (v := 32) hx hb dX10_advance_20 (by decide) ?_
      refine lv_pc (q := 22) rfl ?_
      refine lv_icmp_eq (tgt := 39) hx hb dX10_advance_22 (by decide) (fun c28 => ?_) (fun c28 => ?_)
      · have k_28 : a27 = 32 := (nI_eq (a := a27) (b := 32) (by omega) (by omega)).mp c28
        refine lv_aload_n hx hb dX10_advance_39 rfl (lv_at hl 0 rfl) ?_
        refine lv_dup hx hb dX10_advance_40 rfl ?_
        refine uGet (ci := 10) (C := RX10) (T := TX10) (N := 10) (v := .int (nI y1)) B inlX10 hP 0 rfl rfl 4 rfl mfl_X10_26 rfl rfl dX10_advance_41 ?_
        refine lv_iconst (v := 1) hx hb dX10_advance_44 (by decide) ?_
        refine lv_iadd hx hb dX10_advance_45 ?_
        refine lv_fixi (y := (nI (y1 + 1))) (by rw [show (1 : Int32) = nI 1 from rfl, nI_add]) ?_
        refine lv_pc (q := 46) rfl ?_
        refine uPut (ci := 10) (C := RX10) (T := TX10) (N := 10) (ws' := [(a_K, .inr (10, [.ref a_K_bytes, .ref a_K_keyNames, .int (nI v_K_size), .int (nI v_K_length), .int (nI (y1 + 1)), .int v_K_kind, .int v_K_place, .int v_K_number, .long v_K_name, .int v_K_key])), (a_K_bytes, .inl (K 0, 1000, .inl f_K_bytes)), (a_K_keyNames, .inl (K 2, 13, .inr (.inl f_K_keyNames)))]) B inlX10 tyX10_ok nmX10 hP hD hS 0 rfl rfl 4 rfl mfl_X10_26 rfl rfl rfl rfl rfl rfl dX10_advance_46 (fun H locs hP hD hS => ?_)
        refine lv_goto (tgt := 0) hx hb dX10_advance_49 (by decide) ?_
        refine lv_pc (q := 0) rfl ?_
        refine W.widen (k := 0) (n := 0) (Nat.le_of_ble_eq_true rfl) (Nat.le_of_ble_eq_true rfl) ?_
        exact ih0 (y1 + 1) (by omega) (by omega) _ _ _ (uSub hP [0, 1, 2] rfl) (hD.sub [0, 1, 2] rfl rfl) hS (lv_sub hl [0] rfl)
      have k_28 : ¬ a27 = 32 := fun h9 => c28 ((nI_eq (a := a27) (b := 32) (by omega) (by omega)).mpr h9)
      refine lv_aload_n hx hb dX10_advance_25 rfl (lv_at hl 0 rfl) ?_
      refine uGet (ci := 10) (C := RX10) (T := TX10) (N := 10) (v := .ref a_K_bytes) B inlX10 hP 0 rfl rfl 0 rfl mfl_X10_9 rfl rfl dX10_advance_26 ?_
      refine lv_aload_n hx hb dX10_advance_29 rfl (lv_at hl 0 rfl) ?_
      refine uGet (ci := 10) (C := RX10) (T := TX10) (N := 10) (v := .int (nI y1)) B inlX10 hP 0 rfl rfl 4 rfl mfl_X10_26 rfl rfl dX10_advance_30 ?_
      refine uIald (i := (nI y1)) (j := y1) B hP 1 rfl (nI_in (by omega) (by omega)) (nI_clamp (by omega)) dX10_advance_33 ?_
      obtain ⟨a29, ha29, ea29⟩ := uRnat r_K_bytes y1 (by decide)
      simp only [Int32.reduceToInt] at ha29
      refine lv_fixi (y := (nI a29)) ea29 ?_
      refine lv_pc (q := 34) rfl ?_
      refine lv_bipush (v := 10) hx hb dX10_advance_34 (by decide) ?_
      refine lv_icmp_ne (tgt := 52) hx hb dX10_advance_36 (by decide) (fun c30 => ?_) (fun c30 => ?_)
      · have k_30 : ¬ a29 = 10 := fun h9 => c30 ((nI_eq (a := a29) (b := 10) (by omega) (by omega)).mpr h9)
        refine lv_aload_n hx hb dX10_advance_52 rfl (lv_at hl 0 rfl) ?_
        refine lv_aload_n hx hb dX10_advance_53 rfl (lv_at hl 0 rfl) ?_
        refine uGet (ci := 10) (C := RX10) (T := TX10) (N := 10) (v := .int (nI y1)) B inlX10 hP 0 rfl rfl 4 rfl mfl_X10_26 rfl rfl dX10_advance_54 ?_
        refine uPut (ci := 10) (C := RX10) (T := TX10) (N := 10) (ws' := [(a_K, .inr (10, [.ref a_K_bytes, .ref a_K_keyNames, .int (nI v_K_size), .int (nI v_K_length), .int (nI y1), .int v_K_kind, .int (nI y1), .int v_K_number, .long v_K_name, .int v_K_key])), (a_K_bytes, .inl (K 0, 1000, .inl f_K_bytes)), (a_K_keyNames, .inl (K 2, 13, .inr (.inl f_K_keyNames)))]) B inlX10 tyX10_ok nmX10 hP hD hS 0 rfl rfl 6 rfl mfl_X10_32 rfl rfl rfl rfl rfl rfl dX10_advance_57 (fun H locs hP hD hS => ?_)
        refine lv_pc (q := 60) rfl ?_
        refine lv_aload_n hx hb dX10_advance_60 rfl (lv_at hl 0 rfl) ?_
        refine lv_iconst (v := (-1)) hx hb dX10_advance_61 (by decide) ?_
        refine uPut (ci := 10) (C := RX10) (T := TX10) (N := 10) (ws' := [(a_K, .inr (10, [.ref a_K_bytes, .ref a_K_keyNames, .int (nI v_K_size), .int (nI v_K_length), .int (nI y1), .int v_K_kind, .int (nI y1), .int v_K_number, .long v_K_name, .int (-1)])), (a_K_bytes, .inl (K 0, 1000, .inl f_K_bytes)), (a_K_keyNames, .inl (K 2, 13, .inr (.inl f_K_keyNames)))]) B inlX10 tyX10_ok nmX10 hP hD hS 0 rfl rfl 9 rfl mfl_X10_42 rfl rfl rfl rfl rfl rfl dX10_advance_62 (fun H locs hP hD hS => ?_)
        refine lv_aload_n hx hb dX10_advance_65 rfl (lv_at hl 0 rfl) ?_
        refine uGet (ci := 10) (C := RX10) (T := TX10) (N := 10) (v := .int (nI y1)) B inlX10 hP 0 rfl rfl 4 rfl mfl_X10_26 rfl rfl dX10_advance_66 ?_
        refine lv_aload_n hx hb dX10_advance_69 rfl (lv_at hl 0 rfl) ?_
        refine lv_pc (q := 70) rfl ?_
        refine uGet (ci := 10) (C := RX10) (T := TX10) (N := 10) (v := .int (nI v_K_length)) B inlX10 hP 0 rfl rfl 3 rfl mfl_X10_23 rfl rfl dX10_advance_70 ?_
        refine lv_icmp_lt (tgt := 84) hx hb dX10_advance_73 (by decide) (fun c31 => ?_) (fun c31 => ?_)
        · have k_31 : y1 < v_K_length := (nI_ltI (a := y1) (b := v_K_length) (by omega) (by omega)).mp c31
          refine lv_aload_n hx hb dX10_advance_84 rfl (lv_at hl 0 rfl) ?_
          refine uGet (ci := 10) (C := RX10) (T := TX10) (N := 10) (v := .ref a_K_bytes) B inlX10 hP 0 rfl rfl 0 rfl mfl_X10_9 rfl rfl dX10_advance_85 ?_
          refine lv_aload_n hx hb dX10_advance_88 rfl (lv_at hl 0 rfl) ?_
          refine uGet (ci := 10) (C := RX10) (T := TX10) (N := 10) (v := .int (nI y1)) B inlX10 hP 0 rfl rfl 4 rfl mfl_X10_26 rfl rfl dX10_advance_89 ?_
          refine lv_pc (q := 92) rfl ?_
          refine uIald (i := (nI y1)) (j := y1) B hP 1 rfl (nI_in (by omega) (by omega)) (nI_clamp (by omega)) dX10_advance_92 ?_
          obtain ⟨a32, ha32, ea32⟩ := uRnat r_K_bytes y1 (by decide)
          simp only [Int32.reduceToInt] at ha32
          refine lv_fixi (y := (nI a32)) ea32 ?_
          refine uSi (As := [.int (nI a32)]) (rest := []) (wr := [(a_K, .inr (10, [.ref a_K_bytes, .ref a_K_keyNames, .int (nI v_K_size), .int (nI v_K_length), .int (nI y1), .int v_K_kind, .int (nI y1), .int v_K_number, .long v_K_name, .int (-1)])), (a_K_bytes, .inl (K 0, 1000, .inl f_K_bytes)), (a_K_keyNames, .inl (K 2, 13, .inr (.inl f_K_keyNames)))]) [] B hl.1 hP hD hS [] [0, 1, 2] rfl rfl rfl (wX10_isLetter l D K _ (nI a32)) wd_X10_isLetter mml_X10_65 rfl rfl ⟨Nat.le_of_ble_eq_true rfl, Nat.le_of_ble_eq_true rfl⟩ (Nat.le_of_ble_eq_true rfl) ⟨Nat.le_of_ble_eq_true rfl, Nat.le_of_ble_eq_true rfl⟩ dX10_advance_93 (fun r33 u H locs hw hP hD hS => ?_)
          try dsimp only at hw
          have w34 := hw
          have hP : va_P D vwCl [(a_K, .inr (10, [.ref a_K_bytes, .ref a_K_keyNames, .int (nI v_K_size), .int (nI v_K_length), .int (nI y1), .int v_K_kind, .int (nI y1), .int v_K_number, .long v_K_name, .int (-1)])), (a_K_bytes, .inl (K 0, 1000, .inl f_K_bytes)), (a_K_keyNames, .inl (K 2, 13, .inr (.inl f_K_keyNames)))] H := hP
          have hD := uDPJ hP hD
          rcases w34 with rfl | rfl
          · refine lv_if_eq (tgt := 106) hx hb dX10_advance_96 (by decide) (fun _ => ?_) (fun h9 => absurd (by decide) h9)
            refine lv_aload_n hx hb dX10_advance_106 rfl (lv_at hl 0 rfl) ?_
            refine uGet (ci := 10) (C := RX10) (T := TX10) (N := 10) (v := .ref a_K_bytes) B inlX10 hP 0 rfl rfl 0 rfl mfl_X10_9 rfl rfl dX10_advance_107 ?_
            refine lv_aload_n hx hb dX10_advance_110 rfl (lv_at hl 0 rfl) ?_
            refine lv_pc (q := 111) rfl ?_
            refine uGet (ci := 10) (C := RX10) (T := TX10) (N := 10) (v := .int (nI y1)) B inlX10 hP 0 rfl rfl 4 rfl mfl_X10_26 rfl rfl dX10_advance_111 ?_
            refine uIald (i := (nI y1)) (j := y1) B hP 1 rfl (nI_in (by omega) (by omega)) (nI_clamp (by omega)) dX10_advance_114 ?_
            obtain ⟨a35, ha35, ea35⟩ := uRnat r_K_bytes y1 (by decide)
            simp only [Int32.reduceToInt] at ha35
            refine lv_fixi (y := (nI a35)) ea35 ?_
            refine uSi (As := [.int (nI a35)]) (rest := []) (wr := [(a_K, .inr (10, [.ref a_K_bytes, .ref a_K_keyNames, .int (nI v_K_size), .int (nI v_K_length), .int (nI y1), .int v_K_kind, .int (nI y1), .int v_K_number, .long v_K_name, .int (-1)])), (a_K_bytes, .inl (K 0, 1000, .inl f_K_bytes)), (a_K_keyNames, .inl (K 2, 13, .inr (.inl f_K_keyNames)))]) [] B hl.1 hP hD hS [] [0, 1, 2] rfl rfl rfl (wX10_isDigit l D K _ (nI a35)) wd_X10_isDigit mml_X10_72 rfl rfl ⟨Nat.le_of_ble_eq_true rfl, Nat.le_of_ble_eq_true rfl⟩ (Nat.le_of_ble_eq_true rfl) ⟨Nat.le_of_ble_eq_true rfl, Nat.le_of_ble_eq_true rfl⟩ dX10_advance_115 (fun r36 u H locs hw hP hD hS => ?_)
            try dsimp only at hw
            have w37 := hw
            have hP : va_P D vwCl [(a_K, .inr (10, [.ref a_K_bytes, .ref a_K_keyNames, .int (nI v_K_size), .int (nI v_K_length), .int (nI y1), .int v_K_kind, .int (nI y1), .int v_K_number, .long v_K_name, .int (-1)])), (a_K_bytes, .inl (K 0, 1000, .inl f_K_bytes)), (a_K_keyNames, .inl (K 2, 13, .inr (.inl f_K_keyNames)))] H := hP
            have hD := uDPJ hP hD
            rcases w37 with rfl | rfl
            · refine lv_if_eq (tgt := 128) hx hb dX10_advance_118 (by decide) (fun _ => ?_) (fun h9 => absurd (by decide) h9)
              refine lv_aload_n hx hb dX10_advance_128 rfl (lv_at hl 0 rfl) ?_
              refine uVvJ (As := []) (rest := []) (wr := [(a_K_keyNames, .inl (K 2, 13, .inr (.inl f_K_keyNames)))]) (wX10_takeMark l D K _ a_K v_K_size v_K_length y1 v_K_kind (nI y1) v_K_number v_K_name (-1) a_K_bytes f_K_bytes a_K_keyNames (by omega) (by omega) (by omega) r_K_bytes (by omega)) B hl.1 hP hD hS [0, 1] [2] rfl rfl rfl wd_X10_takeMark mml_X10_78 rfl rfl rfl rfl ⟨Nat.le_of_ble_eq_true rfl, Nat.le_of_ble_eq_true rfl⟩ (Nat.le_of_ble_eq_true rfl) ⟨Nat.le_of_ble_eq_true rfl, Nat.le_of_ble_eq_true rfl⟩ dX10_advance_129 (fun u H locs hw hP hD hS => ?_)
              obtain ⟨u39, u40⟩ := u
              try dsimp only at hw
              have w41 : u39 ≤ 1000 := hw
              have hP : va_P D vwCl [(a_K_keyNames, .inl (K 2, 13, .inr (.inl f_K_keyNames))), (a_K, .inr (10, [.ref a_K_bytes, .ref a_K_keyNames, .int (nI v_K_size), .int (nI v_K_length), .int (nI u39), .int u40, .int (nI y1), .int v_K_number, .long v_K_name, .int (-1)])), (a_K_bytes, .inl (K 0, 1000, .inl f_K_bytes))] H := hP
              have hD := uDPJ hP hD
              refine lv_pc (q := 132) rfl ?_
              exact uRv (u39, u40, nI y1, v_K_number, v_K_name, (-1)) B (by unfold qwX10_advance; (try dsimp only); omega) (uSub hP [1, 2, 0] rfl) (hD.sub [1, 2, 0] rfl rfl) hS dX10_advance_132
            refine lv_if_eq (tgt := 128) hx hb dX10_advance_118 (by decide) (fun h9 => absurd h9 (by decide)) (fun _ => ?_)
            refine lv_aload_n hx hb dX10_advance_121 rfl (lv_at hl 0 rfl) ?_
            refine uVvJ (As := []) (rest := []) (wr := [(a_K_keyNames, .inl (K 2, 13, .inr (.inl f_K_keyNames)))]) (wX10_takeNumber l D K _ a_K v_K_size v_K_length y1 v_K_kind (nI y1) v_K_number v_K_name (-1) a_K_bytes f_K_bytes a_K_keyNames (by omega) (by omega) (by omega) r_K_bytes) B hl.1 hP hD hS [0, 1] [2] rfl rfl rfl wd_X10_takeNumber mml_X10_75 rfl rfl rfl rfl ⟨Nat.le_of_ble_eq_true rfl, Nat.le_of_ble_eq_true rfl⟩ (Nat.le_of_ble_eq_true rfl) ⟨Nat.le_of_ble_eq_true rfl, Nat.le_of_ble_eq_true rfl⟩ dX10_advance_122 (fun u H locs hw hP hD hS => ?_)
            obtain ⟨u43, u44, u45⟩ := u
            try dsimp only at hw
            have w46 : u43 ≤ 1000 := hw
            have hP : va_P D vwCl [(a_K_keyNames, .inl (K 2, 13, .inr (.inl f_K_keyNames))), (a_K, .inr (10, [.ref a_K_bytes, .ref a_K_keyNames, .int (nI v_K_size), .int (nI v_K_length), .int (nI u43), .int u44, .int (nI y1), .int u45, .long v_K_name, .int (-1)])), (a_K_bytes, .inl (K 0, 1000, .inl f_K_bytes))] H := hP
            have hD := uDPJ hP hD
            refine lv_pc (q := 125) rfl ?_
            refine lv_goto (tgt := 132) hx hb dX10_advance_125 (by decide) ?_
            exact uRv (u43, u44, nI y1, u45, v_K_name, (-1)) B (by unfold qwX10_advance; (try dsimp only); omega) (uSub hP [1, 2, 0] rfl) (hD.sub [1, 2, 0] rfl rfl) hS dX10_advance_132
          refine lv_if_eq (tgt := 106) hx hb dX10_advance_96 (by decide) (fun h9 => absurd h9 (by decide)) (fun _ => ?_)
          refine lv_aload_n hx hb dX10_advance_99 rfl (lv_at hl 0 rfl) ?_
          refine uVvJ (As := []) (rest := []) (wr := []) (wX10_takeName l D K _ a_K v_K_size v_K_length y1 v_K_kind (nI y1) v_K_number v_K_name (-1) a_K_bytes f_K_bytes a_K_keyNames f_K_keyNames (by omega) (by omega) (by omega) r_K_bytes) B hl.1 hP hD hS [0, 1, 2] [] rfl rfl rfl wd_X10_takeName mml_X10_69 rfl rfl rfl rfl ⟨Nat.le_of_ble_eq_true rfl, Nat.le_of_ble_eq_true rfl⟩ (Nat.le_of_ble_eq_true rfl) ⟨Nat.le_of_ble_eq_true rfl, Nat.le_of_ble_eq_true rfl⟩ dX10_advance_100 (fun u H locs hw hP hD hS => ?_)
          obtain ⟨u48, u49, u50, u51⟩ := u
          try dsimp only at hw
          have w52 : u48 ≤ 1000 := hw
          have hP : va_P D vwCl [(a_K, .inr (10, [.ref a_K_bytes, .ref a_K_keyNames, .int (nI v_K_size), .int (nI v_K_length), .int (nI u48), .int u49, .int (nI y1), .int v_K_number, .long u50, .int u51])), (a_K_bytes, .inl (K 0, 1000, .inl f_K_bytes)), (a_K_keyNames, .inl (K 2, 13, .inr (.inl f_K_keyNames)))] H := hP
          have hD := uDPJ hP hD
          refine lv_goto (tgt := 132) hx hb dX10_advance_103 (by decide) ?_
          refine lv_pc (q := 132) rfl ?_
          exact uRv (u48, u49, nI y1, v_K_number, u50, u51) B (by unfold qwX10_advance; (try dsimp only); omega) (uSub hP [0, 1, 2] rfl) (hD.sub [0, 1, 2] rfl rfl) hS dX10_advance_132
        have k_31 : ¬ y1 < v_K_length := fun h9 => c31 ((nI_ltI (a := y1) (b := v_K_length) (by omega) (by omega)).mpr h9)
        refine lv_aload_n hx hb dX10_advance_76 rfl (lv_at hl 0 rfl) ?_
        refine lv_iconst (v := 0) hx hb dX10_advance_77 (by decide) ?_
        refine uPut (ci := 10) (C := RX10) (T := TX10) (N := 10) (ws' := [(a_K, .inr (10, [.ref a_K_bytes, .ref a_K_keyNames, .int (nI v_K_size), .int (nI v_K_length), .int (nI y1), .int 0, .int (nI y1), .int v_K_number, .long v_K_name, .int (-1)])), (a_K_bytes, .inl (K 0, 1000, .inl f_K_bytes)), (a_K_keyNames, .inl (K 2, 13, .inr (.inl f_K_keyNames)))]) B inlX10 tyX10_ok nmX10 hP hD hS 0 rfl rfl 5 rfl mfl_X10_29 rfl rfl rfl rfl rfl rfl dX10_advance_78 (fun H locs hP hD hS => ?_)
        refine lv_goto (tgt := 132) hx hb dX10_advance_81 (by decide) ?_
        refine lv_pc (q := 132) rfl ?_
        exact uRv (y1, 0, nI y1, v_K_number, v_K_name, (-1)) B (by unfold qwX10_advance; (try dsimp only); omega) (uSub hP [0, 1, 2] rfl) (hD.sub [0, 1, 2] rfl rfl) hS dX10_advance_132
      have k_30 : a29 = 10 := (nI_eq (a := a29) (b := 10) (by omega) (by omega)).mp c30
      refine lv_aload_n hx hb dX10_advance_39 rfl (lv_at hl 0 rfl) ?_
      refine lv_dup hx hb dX10_advance_40 rfl ?_
      refine uGet (ci := 10) (C := RX10) (T := TX10) (N := 10) (v := .int (nI y1)) B inlX10 hP 0 rfl rfl 4 rfl mfl_X10_26 rfl rfl dX10_advance_41 ?_
      refine lv_iconst (v := 1) hx hb dX10_advance_44 (by decide) ?_
      refine lv_pc (q := 45) rfl ?_
      refine lv_iadd hx hb dX10_advance_45 ?_
      refine lv_fixi (y := (nI (y1 + 1))) (by rw [show (1 : Int32) = nI 1 from rfl, nI_add]) ?_
      refine uPut (ci := 10) (C := RX10) (T := TX10) (N := 10) (ws' := [(a_K, .inr (10, [.ref a_K_bytes, .ref a_K_keyNames, .int (nI v_K_size), .int (nI v_K_length), .int (nI (y1 + 1)), .int v_K_kind, .int v_K_place, .int v_K_number, .long v_K_name, .int v_K_key])), (a_K_bytes, .inl (K 0, 1000, .inl f_K_bytes)), (a_K_keyNames, .inl (K 2, 13, .inr (.inl f_K_keyNames)))]) B inlX10 tyX10_ok nmX10 hP hD hS 0 rfl rfl 4 rfl mfl_X10_26 rfl rfl rfl rfl rfl rfl dX10_advance_46 (fun H locs hP hD hS => ?_)
      refine lv_goto (tgt := 0) hx hb dX10_advance_49 (by decide) ?_
      refine lv_pc (q := 0) rfl ?_
      refine W.widen (k := 0) (n := 0) (Nat.le_of_ble_eq_true rfl) (Nat.le_of_ble_eq_true rfl) ?_
      exact ih0 (y1 + 1) (by omega) (by omega) _ _ _ (uSub hP [0, 1, 2] rfl) (hD.sub [0, 1, 2] rfl rfl) hS (lv_sub hl [0] rfl)
  refine lv_pc (q := 0) rfl ?_
  refine W.widen (k := 0) (n := 0) (Nat.le_of_ble_eq_true rfl) (Nat.le_of_ble_eq_true rfl) ?_
  exact L3 ((v_K_length - v_K_next) + 1) v_K_next (by omega) (Nat.lt_succ_self _) _ _ _ hP hD hS hl
def qwX10_start (a_K : Nat) (v_K_size : Nat) (v_K_length : Nat) (v_K_next : Nat) (v_K_kind : Int32) (v_K_place : Int32) (v_K_number : Int32) (v_K_name : Int64) (v_K_key : Int32) (a_K_bytes : Nat) (f_K_bytes : Nat → Int32) (a_K_keyNames : Nat) (f_K_keyNames : Nat → Int64) (x0 : Nat) : (Nat × Nat × Int32 × Int32 × Int32 × Int64 × Int32) → Prop := (fun (u : Nat × Nat × Int32 × Int32 × Int32 × Int64 × Int32) => (u.1 ≤ 1000) ∧ (u.2.1 ≤ 1000))
def vwX10_start (K : Nat → ClassId) (a_K : Nat) (v_K_size : Nat) (v_K_length : Nat) (v_K_next : Nat) (v_K_kind : Int32) (v_K_place : Int32) (v_K_number : Int32) (v_K_name : Int64) (v_K_key : Int32) (a_K_bytes : Nat) (f_K_bytes : Nat → Int32) (a_K_keyNames : Nat) (f_K_keyNames : Nat → Int64) (x0 : Nat) : (Nat × Nat × Int32 × Int32 × Int32 × Int64 × Int32) → va_W := (fun (u : Nat × Nat × Int32 × Int32 × Int32 × Int64 × Int32) => [(a_K, .inr (10, [.ref a_K_bytes, .ref a_K_keyNames, .int (nI v_K_size), .int (nI ((u.1))), .int (nI ((u.2.1))), .int u.2.2.1, .int u.2.2.2.1, .int u.2.2.2.2.1, .long u.2.2.2.2.2.1, .int u.2.2.2.2.2.2])), (a_K_bytes, .inl (K 0, 1000, .inl f_K_bytes)), (a_K_keyNames, .inl (K 2, 13, .inr (.inl f_K_keyNames)))])
set_option maxHeartbeats 4000000 in
set_option maxRecDepth 100000 in
theorem wX10_start (l : Launch) (D : va_G) (K : Nat → ClassId) (sz : Nat) (a_K : Nat) (v_K_size : Nat) (v_K_length : Nat) (v_K_next : Nat) (v_K_kind : Int32) (v_K_place : Int32) (v_K_number : Int32) (v_K_name : Int64) (v_K_key : Int32) (a_K_bytes : Nat) (f_K_bytes : Nat → Int32) (a_K_keyNames : Nat) (f_K_keyNames : Nat → Int64) (x0 : Nat) (hv_K_size : v_K_size ≤ 1000) (hv_K_length : v_K_length ≤ 1000) (hv_K_next : v_K_next ≤ 1000) (r_K_bytes : uRg f_K_bytes 0 255) (hx0 : x0 < v_K_size + 1) : uMv l yX10_start cX10_start 2 { frames := 3, cells := 0, slots := 0, locals := 63 } [.ref a_K, .int (nI x0)] D K [(a_K, .inr (10, [.ref a_K_bytes, .ref a_K_keyNames, .int (nI v_K_size), .int (nI v_K_length), .int (nI v_K_next), .int v_K_kind, .int v_K_place, .int v_K_number, .long v_K_name, .int v_K_key])), (a_K_bytes, .inl (K 0, 1000, .inl f_K_bytes)), (a_K_keyNames, .inl (K 2, 13, .inr (.inl f_K_keyNames)))] sz (qwX10_start a_K v_K_size v_K_length v_K_next v_K_kind v_K_place v_K_number v_K_name v_K_key a_K_bytes f_K_bytes a_K_keyNames f_K_keyNames x0) (vwX10_start K a_K v_K_size v_K_length v_K_next v_K_kind v_K_place v_K_number v_K_name v_K_key a_K_bytes f_K_bytes a_K_keyNames f_K_keyNames x0) := by
  refine uMet (Qc := uQv D (qwX10_start a_K v_K_size v_K_length v_K_next v_K_kind v_K_place v_K_number v_K_name v_K_key a_K_bytes f_K_bytes a_K_keyNames f_K_keyNames x0) (vwX10_start K a_K v_K_size v_K_length v_K_next v_K_kind v_K_place v_K_number v_K_name v_K_key a_K_bytes f_K_bytes a_K_keyNames f_K_keyNames x0)) (ret := none) (by decide) (Nat.le_of_ble_eq_true rfl) ?_
  intro p e s m below meth c A ls hAe hsz B hP hD hS hl
  have hx := B.1
  have hb := B.2.1
  have hl : lv_has ls 2 [(0, .ref a_K), (1, .int (nI x0))] := hl
  refine lv_aload_n hx hb dX10_start_0 rfl (lv_at hl 0 rfl) ?_
  refine lv_iload_n hx hb dX10_start_1 rfl (lv_at hl 1 rfl) ?_
  refine uPut (ci := 10) (C := RX10) (T := TX10) (N := 10) (ws' := [(a_K, .inr (10, [.ref a_K_bytes, .ref a_K_keyNames, .int (nI v_K_size), .int (nI x0), .int (nI v_K_next), .int v_K_kind, .int v_K_place, .int v_K_number, .long v_K_name, .int v_K_key])), (a_K_bytes, .inl (K 0, 1000, .inl f_K_bytes)), (a_K_keyNames, .inl (K 2, 13, .inr (.inl f_K_keyNames)))]) B inlX10 tyX10_ok nmX10 hP hD hS 0 rfl rfl 3 rfl mfl_X10_23 rfl rfl rfl rfl rfl rfl dX10_start_2 (fun H locs hP hD hS => ?_)
  refine lv_aload_n hx hb dX10_start_5 rfl (lv_at hl 0 rfl) ?_
  refine lv_iconst (v := 0) hx hb dX10_start_6 (by decide) ?_
  refine lv_pc (q := 7) rfl ?_
  refine uPut (ci := 10) (C := RX10) (T := TX10) (N := 10) (ws' := [(a_K, .inr (10, [.ref a_K_bytes, .ref a_K_keyNames, .int (nI v_K_size), .int (nI x0), .int 0, .int v_K_kind, .int v_K_place, .int v_K_number, .long v_K_name, .int v_K_key])), (a_K_bytes, .inl (K 0, 1000, .inl f_K_bytes)), (a_K_keyNames, .inl (K 2, 13, .inr (.inl f_K_keyNames)))]) B inlX10 tyX10_ok nmX10 hP hD hS 0 rfl rfl 4 rfl mfl_X10_26 rfl rfl rfl rfl rfl rfl dX10_start_7 (fun H locs hP hD hS => ?_)
  refine lv_aload_n hx hb dX10_start_10 rfl (lv_at hl 0 rfl) ?_
  refine uVvJ (As := []) (rest := []) (wr := []) (wX10_advance l D K _ a_K v_K_size x0 0 v_K_kind v_K_place v_K_number v_K_name v_K_key a_K_bytes f_K_bytes a_K_keyNames f_K_keyNames (by omega) (by omega) (by omega) r_K_bytes) B hl.1 hP hD hS [0, 1, 2] [] rfl rfl rfl wd_X10_advance mml_X10_62 rfl rfl rfl rfl ⟨Nat.le_of_ble_eq_true rfl, Nat.le_of_ble_eq_true rfl⟩ (Nat.le_of_ble_eq_true rfl) ⟨Nat.le_of_ble_eq_true rfl, Nat.le_of_ble_eq_true rfl⟩ dX10_start_11 (fun u H locs hw hP hD hS => ?_)
  obtain ⟨u2, u3, u4, u5, u6, u7⟩ := u
  try dsimp only at hw
  have w8 : u2 ≤ 1000 := hw
  have hP : va_P D vwCl [(a_K, .inr (10, [.ref a_K_bytes, .ref a_K_keyNames, .int (nI v_K_size), .int (nI x0), .int (nI u2), .int u3, .int u4, .int u5, .long u6, .int u7])), (a_K_bytes, .inl (K 0, 1000, .inl f_K_bytes)), (a_K_keyNames, .inl (K 2, 13, .inr (.inl f_K_keyNames)))] H := hP
  have hD := uDPJ hP hD
  exact uRv (x0, u2, u3, u4, u5, u6, u7) B ⟨(by omega), (by omega)⟩ (uSub hP [0, 1, 2] rfl) (hD.sub [0, 1, 2] rfl rfl) hS dX10_start_14

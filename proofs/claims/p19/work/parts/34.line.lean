def qwJ6_bitCount_0f7a4 (x0 : Int32) : Int32 → (Unit) → Prop := (fun (r : Int32) (u : Unit) => True)
def vwJ6_bitCount_0f7a4 (K : Nat → ClassId) (x0 : Int32) : (Unit) → va_W := (fun (u : Unit) => [])
set_option maxHeartbeats 4000000 in
set_option maxRecDepth 100000 in
theorem wJ6_bitCount_0f7a4 (l : Launch) (D : va_G) (K : Nat → ClassId) (sz : Nat) (x0 : Int32) : uMi l yJ6_bitCount_0f7a4 cJ6_bitCount_0f7a4 1 (some .int) { frames := 0, cells := 0, slots := 0, locals := 0 } [.int x0] D K [] sz (qwJ6_bitCount_0f7a4 x0) (vwJ6_bitCount_0f7a4 K x0) := by
  refine uMet (Qc := uQi D (qwJ6_bitCount_0f7a4 x0) (vwJ6_bitCount_0f7a4 K x0)) (ret := (some .int)) (by decide) (Nat.le_of_ble_eq_true rfl) ?_
  intro p e s m below meth c A ls hAe hsz B hP hD hS hl
  have hx := B.1
  have hb := B.2.1
  have hl : lv_has ls 1 [(0, .int x0)] := hl
  refine lv_iload_n hx hb dJ6_bitCount_0f7a4_0 rfl (lv_at hl 0 rfl) ?_
  refine lv_iload_n hx hb dJ6_bitCount_0f7a4_1 rfl (lv_at hl 0 rfl) ?_
  refine lv_iconst (v := 1) hx hb dJ6_bitCount_0f7a4_2 (by decide) ?_
  refine lv_iushr (v := ((x0.toUInt32 >>> ((1 : Int32).toUInt32 &&& Int32.toUInt32 31)).toInt32)) hx hb dJ6_bitCount_0f7a4_3 rfl ?_
  refine uLdcw B mct_J6_265 dJ6_bitCount_0f7a4_4 ?_
  refine lv_pc (q := 7) rfl ?_
  refine lv_iand hx hb dJ6_bitCount_0f7a4_7 ?_
  refine lv_isub hx hb dJ6_bitCount_0f7a4_8 ?_
  refine lv_topi (fun y1 ey1 => ?_)
  clear ey1
  refine lv_istore_n (lv' := [(0, .int y1)]) hx hb dJ6_bitCount_0f7a4_9 rfl hl (by decide) rfl (fun ls hl => ?_)
  refine lv_iload_n hx hb dJ6_bitCount_0f7a4_10 rfl (lv_at hl 0 rfl) ?_
  refine uLdcw B mct_J6_266 dJ6_bitCount_0f7a4_11 ?_
  refine lv_iand hx hb dJ6_bitCount_0f7a4_14 ?_
  refine lv_pc (q := 15) rfl ?_
  refine lv_iload_n hx hb dJ6_bitCount_0f7a4_15 rfl (lv_at hl 0 rfl) ?_
  refine lv_iconst (v := 2) hx hb dJ6_bitCount_0f7a4_16 (by decide) ?_
  refine lv_iushr (v := ((y1.toUInt32 >>> ((2 : Int32).toUInt32 &&& Int32.toUInt32 31)).toInt32)) hx hb dJ6_bitCount_0f7a4_17 rfl ?_
  refine uLdcw B mct_J6_266 dJ6_bitCount_0f7a4_18 ?_
  refine lv_iand hx hb dJ6_bitCount_0f7a4_21 ?_
  refine lv_iadd hx hb dJ6_bitCount_0f7a4_22 ?_
  refine lv_pc (q := 23) rfl ?_
  refine lv_topi (fun y2 ey2 => ?_)
  clear ey2
  refine lv_istore_n (lv' := [(0, .int y2)]) hx hb dJ6_bitCount_0f7a4_23 rfl hl (by decide) rfl (fun ls hl => ?_)
  refine lv_iload_n hx hb dJ6_bitCount_0f7a4_24 rfl (lv_at hl 0 rfl) ?_
  refine lv_iload_n hx hb dJ6_bitCount_0f7a4_25 rfl (lv_at hl 0 rfl) ?_
  refine lv_iconst (v := 4) hx hb dJ6_bitCount_0f7a4_26 (by decide) ?_
  refine lv_iushr (v := ((y2.toUInt32 >>> ((4 : Int32).toUInt32 &&& Int32.toUInt32 31)).toInt32)) hx hb dJ6_bitCount_0f7a4_27 rfl ?_
  refine lv_iadd hx hb dJ6_bitCount_0f7a4_28 ?_
  refine lv_pc (q := 29) rfl ?_
  refine uLdcw B mct_J6_267 dJ6_bitCount_0f7a4_29 ?_
  refine lv_iand hx hb dJ6_bitCount_0f7a4_32 ?_
  refine lv_topi (fun y3 ey3 => ?_)
  clear ey3
  refine lv_istore_n (lv' := [(0, .int y3)]) hx hb dJ6_bitCount_0f7a4_33 rfl hl (by decide) rfl (fun ls hl => ?_)
  refine lv_iload_n hx hb dJ6_bitCount_0f7a4_34 rfl (lv_at hl 0 rfl) ?_
  refine lv_iload_n hx hb dJ6_bitCount_0f7a4_35 rfl (lv_at hl 0 rfl) ?_
  refine lv_bipush (v := 8) hx hb dJ6_bitCount_0f7a4_36 (by decide) ?_
  refine lv_pc (q := 38) rfl ?_
  refine lv_iushr (v := ((y3.toUInt32 >>> ((8 : Int32).toUInt32 &&& Int32.toUInt32 31)).toInt32)) hx hb dJ6_bitCount_0f7a4_38 rfl ?_
  refine lv_iadd hx hb dJ6_bitCount_0f7a4_39 ?_
  refine lv_topi (fun y4 ey4 => ?_)
  clear ey4
  refine lv_istore_n (lv' := [(0, .int y4)]) hx hb dJ6_bitCount_0f7a4_40 rfl hl (by decide) rfl (fun ls hl => ?_)
  refine lv_iload_n hx hb dJ6_bitCount_0f7a4_41 rfl (lv_at hl 0 rfl) ?_
  refine lv_iload_n hx hb dJ6_bitCount_0f7a4_42 rfl (lv_at hl 0 rfl) ?_
  refine lv_bipush (v := 16) hx hb dJ6_bitCount_0f7a4_43 (by decide) ?_
  refine lv_pc (q := 45) rfl ?_
  refine lv_iushr (v := ((y4.toUInt32 >>> ((16 : Int32).toUInt32 &&& Int32.toUInt32 31)).toInt32)) hx hb dJ6_bitCount_0f7a4_45 rfl ?_
  refine lv_iadd hx hb dJ6_bitCount_0f7a4_46 ?_
  refine lv_topi (fun y5 ey5 => ?_)
  clear ey5
  refine lv_istore_n (lv' := [(0, .int y5)]) hx hb dJ6_bitCount_0f7a4_47 rfl hl (by decide) rfl (fun ls hl => ?_)
  refine lv_iload_n hx hb dJ6_bitCount_0f7a4_48 rfl (lv_at hl 0 rfl) ?_
  refine lv_bipush (v := 63) hx hb dJ6_bitCount_0f7a4_49 (by decide) ?_
  refine lv_iand hx hb dJ6_bitCount_0f7a4_51 ?_
  refine lv_pc (q := 52) rfl ?_
  exact uRi () B trivial (uSub hP [] rfl) (hD.sub [] rfl rfl) hS dJ6_bitCount_0f7a4_52
def qwJ7_fill_53178_vF12 (a_F12 : Nat) (f_F12 : Nat → Int32) (x1 : Int32) : ((Nat → Int32)) → Prop := (fun (u : (Nat → Int32)) => True)
def vwJ7_fill_53178_vF12 (K : Nat → ClassId) (a_F12 : Nat) (f_F12 : Nat → Int32) (x1 : Int32) : ((Nat → Int32)) → va_W := (fun (u : (Nat → Int32)) => [(a_F12, .inl (K 0, 12, .inl u))])
set_option maxHeartbeats 4000000 in
set_option maxRecDepth 100000 in
theorem wJ7_fill_53178_vF12 (l : Launch) (D : va_G) (K : Nat → ClassId) (sz : Nat) (a_F12 : Nat) (f_F12 : Nat → Int32) (x1 : Int32) : uMv l yJ7_fill_53178 cJ7_fill_53178 4 { frames := 0, cells := 0, slots := 0, locals := 0 } [.ref a_F12, .int x1] D K [(a_F12, .inl (K 0, 12, .inl f_F12))] sz (qwJ7_fill_53178_vF12 a_F12 f_F12 x1) (vwJ7_fill_53178_vF12 K a_F12 f_F12 x1) := by
  refine uMet (Qc := uQv D (qwJ7_fill_53178_vF12 a_F12 f_F12 x1) (vwJ7_fill_53178_vF12 K a_F12 f_F12 x1)) (ret := none) (by decide) (Nat.le_of_ble_eq_true rfl) ?_
  intro p e s m below meth c A ls hAe hsz B hP hD hS hl
  have hx := B.1
  have hb := B.2.1
  have hl : lv_has ls 4 [(0, .ref a_F12), (1, .int x1)] := hl
  refine lv_iconst (v := 0) hx hb dJ7_fill_53178_0 (by decide) ?_
  refine lv_istore_n (lv' := [(2, .int 0), (0, .ref a_F12), (1, .int x1)]) hx hb dJ7_fill_53178_1 rfl hl (by decide) rfl (fun ls hl => ?_)
  refine lv_aload_n hx hb dJ7_fill_53178_2 rfl (lv_at hl 1 rfl) ?_
  refine uAlen (t0 := 0) (v := 12) B hP 0 rfl rfl rfl dJ7_fill_53178_3 ?_
  refine lv_istore_n (lv' := [(3, .int 12), (2, .int 0), (0, .ref a_F12), (1, .int x1)]) hx hb dJ7_fill_53178_4 rfl hl (by decide) rfl (fun ls hl => ?_)
  have L4 : ∀ (n9 : Nat) (j1 : Nat) (f2 : Nat → Int32), (j1 ≤ 12) → 12 - j1 < n9 → ∀ (H : Heap) (locs : List Loc) (ls : Array Slot), va_P D vwCl [(a_F12, .inl (K 0, 12, .inl f2))] H → va_D A [(a_F12, .inl (K 0, 12, .inl f2))] → va_S A s.heap H locs → lv_has ls 4 [(3, .int 12), (2, .int (nI j1)), (0, .ref a_F12), (1, .int x1)] → W p l e { frames := 0, cells := 0, slots := 0, locals := 0 } s m ([.ref a_F12, .int x1] : List Value).toArray below meth c H locs 0 0 (MQ below (uQv D (qwJ7_fill_53178_vF12 a_F12 f_F12 x1) (vwJ7_fill_53178_vF12 K a_F12 f_F12 x1) A) ([.ref a_F12, .int x1] : List Value).toArray s 0 0 A) (F0 m 5 ls []) := by
    intro n9
    induction n9 with
    | zero => intros; exact absurd ‹_ < 0› (Nat.not_lt_zero _)
    | succ n5_ ih5 =>
      intro j1 f2 hj1 hm5 H locs ls hP hD hS hl
      refine lv_pc (q := 5) rfl ?_
      refine lv_iload_n hx hb dJ7_fill_53178_5 rfl (lv_at hl 1 rfl) ?_
      refine lv_iload_n hx hb dJ7_fill_53178_6 rfl (lv_at hl 0 rfl) ?_
      refine lv_icmp_ge (tgt := 20) hx hb dJ7_fill_53178_7 (by decide) (fun c5 => ?_) (fun c5 => ?_)
      · have k_5 : 12 ≤ j1 := (nI_leI (a := 12) (b := j1) (by omega) (by omega)).mp c5
        exact uRv f2 B trivial (uSub hP [0] rfl) (hD.sub [0] rfl rfl) hS dJ7_fill_53178_20
      have k_5 : ¬ 12 ≤ j1 := fun h9 => c5 ((nI_leI (a := 12) (b := j1) (by omega) (by omega)).mpr h9)
      refine lv_aload_n hx hb dJ7_fill_53178_10 rfl (lv_at hl 2 rfl) ?_
      refine lv_iload_n hx hb dJ7_fill_53178_11 rfl (lv_at hl 1 rfl) ?_
      refine lv_iload_n hx hb dJ7_fill_53178_12 rfl (lv_at hl 3 rfl) ?_
      refine lv_pc (q := 13) rfl ?_
      refine uIast (i := (nI j1)) (j := j1) (ws' := [(a_F12, .inl (K 0, 12, .inl (upd f2 j1 x1)))]) B hP hD hS 0 rfl (nI_in (by omega) (by omega)) (nI_clamp (by omega)) rfl dJ7_fill_53178_13 (fun H locs hP hD hS => ?_)
      refine lv_iinc (v := nI (j1 + 1)) (lv' := [(2, .int (nI (j1 + 1))), (3, .int 12), (0, .ref a_F12), (1, .int x1)]) hx hb dJ7_fill_53178_14 hl (k := 1) rfl (nI_1 _) (by decide) rfl (fun ls hl => ?_)
      refine lv_goto (tgt := 5) hx hb dJ7_fill_53178_17 (by decide) ?_
      refine lv_pc (q := 5) rfl ?_
      refine W.widen (k := 0) (n := 0) (Nat.le_of_ble_eq_true rfl) (Nat.le_of_ble_eq_true rfl) ?_
      exact ih5 (j1 + 1) (upd f2 j1 x1) (by omega) (by omega) _ _ _ (uSub hP [0] rfl) (hD.sub [0] rfl rfl) hS (lv_sub hl [1, 0, 2, 3] rfl)
  refine lv_pc (q := 5) rfl ?_
  refine W.widen (k := 0) (n := 0) (Nat.le_of_ble_eq_true rfl) (Nat.le_of_ble_eq_true rfl) ?_
  exact L4 ((12 - 0) + 1) 0 f_F12 (by omega) (Nat.lt_succ_self _) _ _ _ hP hD hS hl
def qwX6_nextToDig (a_V : Nat) (v_V_size : Nat) (v_V_fewest : Int32) (v_V_any : Int32) (a_V_shares : Nat) (f_V_shares : Nat → Int32) (a_V_sets : Nat) : Int32 → (Unit) → Prop := (fun (r : Int32) (u : Unit) => True)
def vwX6_nextToDig (K : Nat → ClassId) (a_V : Nat) (v_V_size : Nat) (v_V_fewest : Int32) (v_V_any : Int32) (a_V_shares : Nat) (f_V_shares : Nat → Int32) (a_V_sets : Nat) : (Unit) → va_W := (fun (u : Unit) => [(a_V, .inr (6, [.ref a_V_sets, .ref a_V_shares, .int (nI v_V_size), .int v_V_fewest, .int v_V_any])), (a_V_shares, .inl (K 0, 12, .inl f_V_shares))])
set_option maxHeartbeats 4000000 in
set_option maxRecDepth 100000 in
theorem wX6_nextToDig (l : Launch) (D : va_G) (K : Nat → ClassId) (sz : Nat) (a_V : Nat) (v_V_size : Nat) (v_V_fewest : Int32) (v_V_any : Int32) (a_V_shares : Nat) (f_V_shares : Nat → Int32) (a_V_sets : Nat) (hv_V_size : v_V_size ≤ 252) (hv_V_any : v_V_any = 0 ∨ v_V_any = 1) : uMi l yX6_nextToDig cX6_nextToDig 5 (some .int) { frames := 1, cells := 0, slots := 0, locals := 13 } [.ref a_V] D K [(a_V, .inr (6, [.ref a_V_sets, .ref a_V_shares, .int (nI v_V_size), .int v_V_fewest, .int v_V_any])), (a_V_shares, .inl (K 0, 12, .inl f_V_shares))] sz (qwX6_nextToDig a_V v_V_size v_V_fewest v_V_any a_V_shares f_V_shares a_V_sets) (vwX6_nextToDig K a_V v_V_size v_V_fewest v_V_any a_V_shares f_V_shares a_V_sets) := by
  refine uMet (Qc := uQi D (qwX6_nextToDig a_V v_V_size v_V_fewest v_V_any a_V_shares f_V_shares a_V_sets) (vwX6_nextToDig K a_V v_V_size v_V_fewest v_V_any a_V_shares f_V_shares a_V_sets)) (ret := (some .int)) (by decide) (Nat.le_of_ble_eq_true rfl) ?_
  intro p e s m below meth c A ls hAe hsz B hP hD hS hl
  have hx := B.1
  have hb := B.2.1
  have hl : lv_has ls 5 [(0, .ref a_V)] := hl
  refine lv_iconst (v := (-1)) hx hb dX6_nextToDig_0 (by decide) ?_
  refine lv_istore_n (lv' := [(1, .int (-1)), (0, .ref a_V)]) hx hb dX6_nextToDig_1 rfl hl (by decide) rfl (fun ls hl => ?_)
  refine lv_aload_n hx hb dX6_nextToDig_2 rfl (lv_at hl 1 rfl) ?_
  refine uGet (ci := 6) (C := RX6) (T := TX6) (N := 5) (v := .int (nI v_V_size)) B inlX6 hP 0 rfl rfl 2 rfl mfl_X6_18 rfl rfl dX6_nextToDig_3 ?_
  refine lv_istore_n (lv' := [(2, .int (nI v_V_size)), (1, .int (-1)), (0, .ref a_V)]) hx hb dX6_nextToDig_6 rfl hl (by decide) rfl (fun ls hl => ?_)
  refine lv_pc (q := 7) rfl ?_
  refine lv_iconst (v := 0) hx hb dX6_nextToDig_7 (by decide) ?_
  refine lv_istore_n (lv' := [(3, .int 0), (2, .int (nI v_V_size)), (1, .int (-1)), (0, .ref a_V)]) hx hb dX6_nextToDig_8 rfl hl (by decide) rfl (fun ls hl => ?_)
  have L5 : ∀ (n9 : Nat) (j1 : Nat) (y2 : Int32) (y3 : Int32), (j1 ≤ 12) → 12 - j1 < n9 → ∀ (H : Heap) (locs : List Loc) (ls : Array Slot), va_P D vwCl [(a_V, .inr (6, [.ref a_V_sets, .ref a_V_shares, .int (nI v_V_size), .int v_V_fewest, .int v_V_any])), (a_V_shares, .inl (K 0, 12, .inl f_V_shares))] H → va_D A [(a_V, .inr (6, [.ref a_V_sets, .ref a_V_shares, .int (nI v_V_size), .int v_V_fewest, .int v_V_any])), (a_V_shares, .inl (K 0, 12, .inl f_V_shares))] → va_S A s.heap H locs → lv_has ls 5 [(3, .int (nI j1)), (2, .int y3), (1, .int y2), (0, .ref a_V)] → W p l e { frames := 1, cells := 0, slots := 0, locals := 13 } s m ([.ref a_V] : List Value).toArray below meth c H locs 0 0 (MQ below (uQi D (qwX6_nextToDig a_V v_V_size v_V_fewest v_V_any a_V_shares f_V_shares a_V_sets) (vwX6_nextToDig K a_V v_V_size v_V_fewest v_V_any a_V_shares f_V_shares a_V_sets) A) ([.ref a_V] : List Value).toArray s 0 0 A) (F0 m 9 ls []) := by
    intro n9
    induction n9 with
    | zero => intros; exact absurd ‹_ < 0› (Nat.not_lt_zero _)
    | succ n9_ ih9 =>
      intro j1 y2 y3 hj1 hm9 H locs ls hP hD hS hl
      refine lv_iload_n hx hb dX6_nextToDig_9 rfl (lv_at hl 0 rfl) ?_
      refine lv_bipush (v := 12) hx hb dX6_nextToDig_10 (by decide) ?_
      refine lv_icmp_ge (tgt := 54) hx hb dX6_nextToDig_12 (by decide) (fun c6 => ?_) (fun c6 => ?_)
      · have k_6 : 12 ≤ j1 := (nI_leI (a := 12) (b := j1) (by omega) (by omega)).mp c6
        refine lv_iload_n hx hb dX6_nextToDig_54 rfl (lv_at hl 2 rfl) ?_
        refine lv_pc (q := 55) rfl ?_
        exact uRi () B trivial (uSub hP [0, 1] rfl) (hD.sub [0, 1] rfl rfl) hS dX6_nextToDig_55
      have k_6 : ¬ 12 ≤ j1 := fun h9 => c6 ((nI_leI (a := 12) (b := j1) (by omega) (by omega)).mpr h9)
      refine lv_aload_n hx hb dX6_nextToDig_15 rfl (lv_at hl 3 rfl) ?_
      refine lv_pc (q := 16) rfl ?_
      refine uGet (ci := 6) (C := RX6) (T := TX6) (N := 5) (v := .ref a_V_shares) B inlX6 hP 0 rfl rfl 1 rfl mfl_X6_15 rfl rfl dX6_nextToDig_16 ?_
      refine lv_iload_n hx hb dX6_nextToDig_19 rfl (lv_at hl 0 rfl) ?_
      refine uIald (i := (nI j1)) (j := j1) B hP 1 rfl (nI_in (by omega) (by omega)) (nI_clamp (by omega)) dX6_nextToDig_20 ?_
      refine lv_aload_n hx hb dX6_nextToDig_21 rfl (lv_at hl 3 rfl) ?_
      refine uGet (ci := 6) (C := RX6) (T := TX6) (N := 5) (v := .int (nI v_V_size)) B inlX6 hP 0 rfl rfl 2 rfl mfl_X6_18 rfl rfl dX6_nextToDig_22 ?_
      refine lv_aload_n hx hb dX6_nextToDig_25 rfl (lv_at hl 3 rfl) ?_
      refine lv_pc (q := 26) rfl ?_
      refine uGet (ci := 6) (C := RX6) (T := TX6) (N := 5) (v := .ref a_V_shares) B inlX6 hP 0 rfl rfl 1 rfl mfl_X6_15 rfl rfl dX6_nextToDig_26 ?_
      refine lv_iload_n hx hb dX6_nextToDig_29 rfl (lv_at hl 0 rfl) ?_
      refine uIald (i := (nI j1)) (j := j1) B hP 1 rfl (nI_in (by omega) (by omega)) (nI_clamp (by omega)) dX6_nextToDig_30 ?_
      refine lv_isub hx hb dX6_nextToDig_31 ?_
      refine uMax B hl.1 mml_X6_64 (Nat.le_of_ble_eq_true rfl) (Nat.le_of_ble_eq_true rfl) (Nat.le_of_ble_eq_true rfl) (Nat.le_of_ble_eq_true rfl) dX6_nextToDig_32 ?_
      refine lv_topi (fun y7 ey7 => ?_)
      clear ey7
      refine lv_istore (lv' := [(4, .int y7), (3, .int (nI j1)), (2, .int y3), (1, .int y2), (0, .ref a_V)]) hx hb dX6_nextToDig_35 hl (by decide) rfl (fun ls hl => ?_)
      refine lv_pc (q := 37) rfl ?_
      refine lv_iload hx hb dX6_nextToDig_37 (lv_at hl 0 rfl) ?_
      refine lv_iload_n hx hb dX6_nextToDig_39 rfl (lv_at hl 2 rfl) ?_
      refine lv_icmp_ge (tgt := 48) hx hb dX6_nextToDig_40 (by decide) (fun c8 => ?_) (fun c8 => ?_)
      · refine lv_iinc (v := nI (j1 + 1)) (lv' := [(3, .int (nI (j1 + 1))), (4, .int y7), (2, .int y3), (1, .int y2), (0, .ref a_V)]) hx hb dX6_nextToDig_48 hl (k := 1) rfl (nI_1 _) (by decide) rfl (fun ls hl => ?_)
        refine lv_goto (tgt := 9) hx hb dX6_nextToDig_51 (by decide) ?_
        refine lv_pc (q := 9) rfl ?_
        refine W.widen (k := 0) (n := 0) (Nat.le_of_ble_eq_true rfl) (Nat.le_of_ble_eq_true rfl) ?_
        exact ih9 (j1 + 1) y2 y3 (by omega) (by omega) _ _ _ (uSub hP [0, 1] rfl) (hD.sub [0, 1] rfl rfl) hS (lv_sub hl [0, 2, 3, 4] rfl)
      refine lv_iload_n hx hb dX6_nextToDig_43 rfl (lv_at hl 1 rfl) ?_
      refine lv_istore_n (lv' := [(1, .int (nI j1)), (4, .int y7), (3, .int (nI j1)), (2, .int y3), (0, .ref a_V)]) hx hb dX6_nextToDig_44 rfl hl (by decide) rfl (fun ls hl => ?_)
      refine lv_iload hx hb dX6_nextToDig_45 (lv_at hl 1 rfl) ?_
      refine lv_pc (q := 47) rfl ?_
      refine lv_istore_n (lv' := [(2, .int y7), (1, .int (nI j1)), (4, .int y7), (3, .int (nI j1)), (0, .ref a_V)]) hx hb dX6_nextToDig_47 rfl hl (by decide) rfl (fun ls hl => ?_)
      refine lv_iinc (v := nI (j1 + 1)) (lv' := [(3, .int (nI (j1 + 1))), (2, .int y7), (1, .int (nI j1)), (4, .int y7), (0, .ref a_V)]) hx hb dX6_nextToDig_48 hl (k := 3) rfl (nI_1 _) (by decide) rfl (fun ls hl => ?_)
      refine lv_goto (tgt := 9) hx hb dX6_nextToDig_51 (by decide) ?_
      refine lv_pc (q := 9) rfl ?_
      refine W.widen (k := 0) (n := 0) (Nat.le_of_ble_eq_true rfl) (Nat.le_of_ble_eq_true rfl) ?_
      exact ih9 (j1 + 1) (nI j1) y7 (by omega) (by omega) _ _ _ (uSub hP [0, 1] rfl) (hD.sub [0, 1] rfl rfl) hS (lv_sub hl [0, 1, 2, 4] rfl)
  refine lv_pc (q := 9) rfl ?_
  refine W.widen (k := 0) (n := 0) (Nat.le_of_ble_eq_true rfl) (Nat.le_of_ble_eq_true rfl) ?_
  exact L5 ((12 - 0) + 1) 0 (-1) (nI v_V_size) (by omega) (Nat.lt_succ_self _) _ _ _ hP hD hS hl

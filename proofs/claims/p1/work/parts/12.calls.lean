def qkJ7_fill_53178_25 (ph0 : Nat) (pf1 : Nat → Int32) : ((Nat → Int32)) → Prop := (fun (u : (Nat → Int32)) => True)
def vkJ7_fill_53178_25 (K : Nat → ClassId) (ph0 : Nat) (pf1 : Nat → Int32) : ((Nat → Int32)) → va_W := (fun (u : (Nat → Int32)) => [(ph0, .inl (K 0, 256, .inl u))])
set_option maxHeartbeats 4000000 in
set_option maxRecDepth 100000 in
theorem kJ7_fill_53178_25 (l : Launch) (D : va_G) (K : Nat → ClassId) (sz : Nat) (ph0 : Nat) (pf1 : Nat → Int32) : uMv l yJ7_fill_53178 cJ7_fill_53178 4 { frames := 0, cells := 0, slots := 0, locals := 0 } [.ref ph0, .int 0] D K [(ph0, .inl (K 0, 256, .inl pf1))] sz (qkJ7_fill_53178_25 ph0 pf1) (vkJ7_fill_53178_25 K ph0 pf1) := by
  refine uMet (Qc := uQv D (qkJ7_fill_53178_25 ph0 pf1) (vkJ7_fill_53178_25 K ph0 pf1)) (ret := none) (by decide) (Nat.le_of_ble_eq_true rfl) ?_
  intro p e s m below meth c A ls hAe hsz B hP hD hS hl
  have hx := B.1
  have hb := B.2.1
  have hl : lv_has ls 4 [(0, .ref ph0), (1, .int 0)] := hl
  refine lv_iconst (v := 0) hx hb dJ7_fill_53178_0 (by decide) ?_
  refine lv_istore_n (lv' := [(2, .int 0), (0, .ref ph0), (1, .int 0)]) hx hb dJ7_fill_53178_1 rfl hl (by decide) rfl (fun ls hl => ?_)
  refine lv_aload_n hx hb dJ7_fill_53178_2 rfl (lv_at hl 1 rfl) ?_
  refine uAlen (t0 := 0) (v := 256) B hP 0 rfl rfl rfl dJ7_fill_53178_3 ?_
  refine lv_istore_n (lv' := [(3, .int 256), (2, .int 0), (0, .ref ph0), (1, .int 0)]) hx hb dJ7_fill_53178_4 rfl hl (by decide) rfl (fun ls hl => ?_)
  have L4 : ∀ (n9 : Nat) (j1 : Nat) (f2 : Nat → Int32), (j1 ≤ 256) → 256 - j1 < n9 → ∀ (H : Heap) (locs : List Loc) (ls : Array Slot), va_P D vwCl [(ph0, .inl (K 0, 256, .inl f2))] H → va_D A [(ph0, .inl (K 0, 256, .inl f2))] → va_S A s.heap H locs → lv_has ls 4 [(3, .int 256), (2, .int (nI j1)), (0, .ref ph0), (1, .int 0)] → W p l e { frames := 0, cells := 0, slots := 0, locals := 0 } s m ([.ref ph0, .int 0] : List Value).toArray below meth c H locs 0 0 (MQ below (uQv D (qkJ7_fill_53178_25 ph0 pf1) (vkJ7_fill_53178_25 K ph0 pf1) A) ([.ref ph0, .int 0] : List Value).toArray s 0 0 A) (F0 m 5 ls []) := by
    intro n9
    induction n9 with
    | zero => intros; exact absurd ‹_ < 0› (Nat.not_lt_zero _)
    | succ n5_ ih5 =>
      intro j1 f2 hj1 hm5 H locs ls hP hD hS hl
      refine lv_pc (q := 5) rfl ?_
      refine lv_iload_n hx hb dJ7_fill_53178_5 rfl (lv_at hl 1 rfl) ?_
      refine lv_iload_n hx hb dJ7_fill_53178_6 rfl (lv_at hl 0 rfl) ?_
      refine lv_icmp_ge (tgt := 20) hx hb dJ7_fill_53178_7 (by decide) (fun c5 => ?_) (fun c5 => ?_)
      · have k_5 : 256 ≤ j1 := (nI_leI (a := 256) (b := j1) (by omega) (by omega)).mp c5
        exact uRv f2 B trivial (uSub hP [0] rfl) (hD.sub [0] rfl rfl) hS dJ7_fill_53178_20
      have k_5 : ¬ 256 ≤ j1 := fun h9 => c5 ((nI_leI (a := 256) (b := j1) (by omega) (by omega)).mpr h9)
      refine lv_aload_n hx hb dJ7_fill_53178_10 rfl (lv_at hl 2 rfl) ?_
      refine lv_iload_n hx hb dJ7_fill_53178_11 rfl (lv_at hl 1 rfl) ?_
      refine lv_iload_n hx hb dJ7_fill_53178_12 rfl (lv_at hl 3 rfl) ?_
      refine lv_pc (q := 13) rfl ?_
      refine uIast (i := (nI j1)) (j := j1) (ws' := [(ph0, .inl (K 0, 256, .inl (upd f2 j1 0)))]) B hP hD hS 0 rfl (nI_in (by omega) (by omega)) (nI_clamp (by omega)) rfl dJ7_fill_53178_13 (fun H locs hP hD hS => ?_)
      refine lv_iinc (v := nI (j1 + 1)) (lv' := [(2, .int (nI (j1 + 1))), (3, .int 256), (0, .ref ph0), (1, .int 0)]) hx hb dJ7_fill_53178_14 hl (k := 1) rfl (nI_1 _) (by decide) rfl (fun ls hl => ?_)
      refine lv_goto (tgt := 5) hx hb dJ7_fill_53178_17 (by decide) ?_
      refine lv_pc (q := 5) rfl ?_
      refine W.widen (k := 0) (n := 0) (Nat.le_of_ble_eq_true rfl) (Nat.le_of_ble_eq_true rfl) ?_
      exact ih5 (j1 + 1) (upd f2 j1 0) (by omega) (by omega) _ _ _ (uSub hP [0] rfl) (hD.sub [0] rfl rfl) hS (lv_sub hl [1, 0, 2, 3] rfl)
  refine lv_pc (q := 5) rfl ?_
  refine W.widen (k := 0) (n := 0) (Nat.le_of_ble_eq_true rfl) (Nat.le_of_ble_eq_true rfl) ?_
  exact L4 ((256 - 0) + 1) 0 pf1 (by omega) (Nat.lt_succ_self _) _ _ _ hP hD hS hl
def qkX9_renew_26 (ph0 : Nat) (ph1 : Nat) (ph2 : Nat) (pg3 : Nat) (pg4 : Nat) (pg5 : Nat) (pg6 : Nat) (pf7 : Nat → Int32) (pf8 : Nat → Int32) (px9 : Int32) (px10 : Int32) : Int32 → (Int32 × Int32 × (Nat → Int32) × (Nat → Int32)) → Prop := (fun (r : Int32) (u : Int32 × Int32 × (Nat → Int32) × (Nat → Int32)) => (r = 0 ∧ u.1 = 4 ∧ u.2.1 = 4 ∧ ((px9 < 4) ∨ (¬ px9 < 4 ∧ 16 < px9) ∨ (¬ px9 < 4 ∧ ¬ 16 < px9 ∧ px10 < 4) ∨ (¬ px9 < 4 ∧ ¬ 16 < px9 ∧ ¬ px10 < 4 ∧ ¬ px10 ≤ 16))) ∨ (r = 1 ∧ u.1 = px9 ∧ u.2.1 = px10 ∧ (¬ px9 < 4 ∧ ¬ 16 < px9 ∧ ¬ px10 < 4 ∧ px10 ≤ 16)))
def vkX9_renew_26 (K : Nat → ClassId) (ph0 : Nat) (ph1 : Nat) (ph2 : Nat) (pg3 : Nat) (pg4 : Nat) (pg5 : Nat) (pg6 : Nat) (pf7 : Nat → Int32) (pf8 : Nat → Int32) (px9 : Int32) (px10 : Int32) : (Int32 × Int32 × (Nat → Int32) × (Nat → Int32)) → va_W := (fun (u : Int32 × Int32 × (Nat → Int32) × (Nat → Int32)) => [(ph0, .inr (9, [.ref ph1, .ref ph2, .ref pg3, .ref pg4, .ref pg5, .ref pg6, .int u.1, .int u.2.1, .int 0])), (ph1, .inl (K 0, 256, .inl (u.2.2.1))), (ph2, .inl (K 0, 256, .inl (u.2.2.2)))])
set_option maxHeartbeats 4000000 in
set_option maxRecDepth 100000 in
theorem kX9_renew_26 (l : Launch) (D : va_G) (K : Nat → ClassId) (sz : Nat) (ph0 : Nat) (ph1 : Nat) (ph2 : Nat) (pg3 : Nat) (pg4 : Nat) (pg5 : Nat) (pg6 : Nat) (pf7 : Nat → Int32) (pf8 : Nat → Int32) (px9 : Int32) (px10 : Int32) : uMi l yX9_renew cX9_renew 3 (some .boolean) { frames := 1, cells := 0, slots := 0, locals := 23 } [.ref ph0, .int px9, .int px10] D K [(ph0, .inr (9, [.ref ph1, .ref ph2, .ref pg3, .ref pg4, .ref pg5, .ref pg6, .int 4, .int 4, .int 0])), (ph1, .inl (K 0, 256, .inl pf7)), (ph2, .inl (K 0, 256, .inl pf8))] sz (qkX9_renew_26 ph0 ph1 ph2 pg3 pg4 pg5 pg6 pf7 pf8 px9 px10) (vkX9_renew_26 K ph0 ph1 ph2 pg3 pg4 pg5 pg6 pf7 pf8 px9 px10) := by
  refine uMet (Qc := uQi D (qkX9_renew_26 ph0 ph1 ph2 pg3 pg4 pg5 pg6 pf7 pf8 px9 px10) (vkX9_renew_26 K ph0 ph1 ph2 pg3 pg4 pg5 pg6 pf7 pf8 px9 px10)) (ret := (some .boolean)) (by decide) (Nat.le_of_ble_eq_true rfl) ?_
  intro p e s m below meth c A ls hAe hsz B hP hD hS hl
  have hx := B.1
  have hb := B.2.1
  have hl : lv_has ls 3 [(0, .ref ph0), (1, .int px9), (2, .int px10)] := hl
  refine lv_iload_n hx hb dX9_renew_0 rfl (lv_at hl 1 rfl) ?_
  refine lv_iconst (v := 4) hx hb dX9_renew_1 (by decide) ?_
  refine lv_icmp_lt (tgt := 22) hx hb dX9_renew_2 (by decide) (fun c1 => ?_) (fun c1 => ?_)
  · refine lv_iconst (v := 0) hx hb dX9_renew_22 (by decide) ?_
    exact uRz (4, 4, pf7, pf8) B rfl (Or.inl ⟨rfl, rfl, rfl, Or.inl c1⟩) (uSub hP [0, 1, 2] rfl) (hD.sub [0, 1, 2] rfl rfl) hS dX9_renew_23
  refine lv_iload_n hx hb dX9_renew_5 rfl (lv_at hl 1 rfl) ?_
  refine lv_bipush (v := 16) hx hb dX9_renew_6 (by decide) ?_
  refine lv_pc (q := 8) rfl ?_
  refine lv_icmp_gt (tgt := 22) hx hb dX9_renew_8 (by decide) (fun c2 => ?_) (fun c2 => ?_)
  · refine lv_iconst (v := 0) hx hb dX9_renew_22 (by decide) ?_
    exact uRz (4, 4, pf7, pf8) B rfl (Or.inl ⟨rfl, rfl, rfl, Or.inr (Or.inl ⟨c1, c2⟩)⟩) (uSub hP [0, 1, 2] rfl) (hD.sub [0, 1, 2] rfl rfl) hS dX9_renew_23
  refine lv_iload_n hx hb dX9_renew_11 rfl (lv_at hl 2 rfl) ?_
  refine lv_iconst (v := 4) hx hb dX9_renew_12 (by decide) ?_
  refine lv_icmp_lt (tgt := 22) hx hb dX9_renew_13 (by decide) (fun c3 => ?_) (fun c3 => ?_)
  · refine lv_iconst (v := 0) hx hb dX9_renew_22 (by decide) ?_
    exact uRz (4, 4, pf7, pf8) B rfl (Or.inl ⟨rfl, rfl, rfl, Or.inr (Or.inr (Or.inl ⟨c1, c2, c3⟩))⟩) (uSub hP [0, 1, 2] rfl) (hD.sub [0, 1, 2] rfl rfl) hS dX9_renew_23
  refine lv_iload_n hx hb dX9_renew_16 rfl (lv_at hl 2 rfl) ?_
  refine lv_bipush (v := 16) hx hb dX9_renew_17 (by decide) ?_
  refine lv_pc (q := 19) rfl ?_
  refine lv_icmp_le (tgt := 24) hx hb dX9_renew_19 (by decide) (fun c4 => ?_) (fun c4 => ?_)
  · refine lv_aload_n hx hb dX9_renew_24 rfl (lv_at hl 0 rfl) ?_
    refine lv_iload_n hx hb dX9_renew_25 rfl (lv_at hl 1 rfl) ?_
    refine uPut (ci := 9) (C := RX9) (T := TX9) (N := 9) (ws' := [(ph0, .inr (9, [.ref ph1, .ref ph2, .ref pg3, .ref pg4, .ref pg5, .ref pg6, .int px9, .int 4, .int 0])), (ph1, .inl (K 0, 256, .inl pf7)), (ph2, .inl (K 0, 256, .inl pf8))]) B inlX9 tyX9_ok nmX9 hP hD hS 0 rfl rfl 6 rfl mfl_X9_30 rfl rfl rfl rfl rfl rfl dX9_renew_26 (fun H locs hP hD hS => ?_)
    refine lv_aload_n hx hb dX9_renew_29 rfl (lv_at hl 0 rfl) ?_
    refine lv_iload_n hx hb dX9_renew_30 rfl (lv_at hl 2 rfl) ?_
    refine lv_pc (q := 31) rfl ?_
    refine uPut (ci := 9) (C := RX9) (T := TX9) (N := 9) (ws' := [(ph0, .inr (9, [.ref ph1, .ref ph2, .ref pg3, .ref pg4, .ref pg5, .ref pg6, .int px9, .int px10, .int 0])), (ph1, .inl (K 0, 256, .inl pf7)), (ph2, .inl (K 0, 256, .inl pf8))]) B inlX9 tyX9_ok nmX9 hP hD hS 0 rfl rfl 7 rfl mfl_X9_34 rfl rfl rfl rfl rfl rfl dX9_renew_31 (fun H locs hP hD hS => ?_)
    refine lv_aload_n hx hb dX9_renew_34 rfl (lv_at hl 0 rfl) ?_
    refine uGet (ci := 9) (C := RX9) (T := TX9) (N := 9) (v := .ref ph1) B inlX9 hP 0 rfl rfl 0 rfl mfl_X9_11 rfl rfl dX9_renew_35 ?_
    refine lv_iconst (v := 0) hx hb dX9_renew_38 (by decide) ?_
    refine uSv (As := [.ref ph1, .int 0]) (rest := []) (wr := [(ph0, .inr (9, [.ref ph1, .ref ph2, .ref pg3, .ref pg4, .ref pg5, .ref pg6, .int px9, .int px10, .int 0])), (ph2, .inl (K 0, 256, .inl pf8))]) [(ph1, .inl (K 0, 256, .inl pf7))] B hl.1 hP hD hS [1] [0, 2] rfl rfl rfl (kJ7_fill_53178_25 l D K _ ph1 pf7) wd_J7_fill_53178 mml_X9_40 rfl rfl ⟨Nat.le_of_ble_eq_true rfl, Nat.le_of_ble_eq_true rfl⟩ (Nat.le_of_ble_eq_true rfl) ⟨Nat.le_of_ble_eq_true rfl, Nat.le_of_ble_eq_true rfl⟩ dX9_renew_39 (fun u H locs hw hP hD hS => ?_)
    obtain ⟨u6, e9⟩ : ∃ y, y = u := ⟨_, rfl⟩
    subst e9
    try dsimp only at hw
    have hP : va_P D vwCl [(ph0, .inr (9, [.ref ph1, .ref ph2, .ref pg3, .ref pg4, .ref pg5, .ref pg6, .int px9, .int px10, .int 0])), (ph2, .inl (K 0, 256, .inl pf8)), (ph1, .inl (K 0, 256, .inl u6))] H := hP
    have hD : va_D A [(ph0, .inr (9, [.ref ph1, .ref ph2, .ref pg3, .ref pg4, .ref pg5, .ref pg6, .int px9, .int px10, .int 0])), (ph2, .inl (K 0, 256, .inl pf8)), (ph1, .inl (K 0, 256, .inl u6))] := hD
    refine lv_aload_n hx hb dX9_renew_42 rfl (lv_at hl 0 rfl) ?_
    refine lv_pc (q := 43) rfl ?_
    refine uGet (ci := 9) (C := RX9) (T := TX9) (N := 9) (v := .ref ph2) B inlX9 hP 0 rfl rfl 1 rfl mfl_X9_15 rfl rfl dX9_renew_43 ?_
    refine lv_iconst (v := 0) hx hb dX9_renew_46 (by decide) ?_
    refine uSv (As := [.ref ph2, .int 0]) (rest := []) (wr := [(ph0, .inr (9, [.ref ph1, .ref ph2, .ref pg3, .ref pg4, .ref pg5, .ref pg6, .int px9, .int px10, .int 0])), (ph1, .inl (K 0, 256, .inl u6))]) [(ph2, .inl (K 0, 256, .inl pf8))] B hl.1 hP hD hS [1] [0, 2] rfl rfl rfl (kJ7_fill_53178_25 l D K _ ph2 pf8) wd_J7_fill_53178 mml_X9_40 rfl rfl ⟨Nat.le_of_ble_eq_true rfl, Nat.le_of_ble_eq_true rfl⟩ (Nat.le_of_ble_eq_true rfl) ⟨Nat.le_of_ble_eq_true rfl, Nat.le_of_ble_eq_true rfl⟩ dX9_renew_47 (fun u H locs hw hP hD hS => ?_)
    obtain ⟨u8, e9⟩ : ∃ y, y = u := ⟨_, rfl⟩
    subst e9
    try dsimp only at hw
    have hP : va_P D vwCl [(ph0, .inr (9, [.ref ph1, .ref ph2, .ref pg3, .ref pg4, .ref pg5, .ref pg6, .int px9, .int px10, .int 0])), (ph1, .inl (K 0, 256, .inl u6)), (ph2, .inl (K 0, 256, .inl u8))] H := hP
    have hD : va_D A [(ph0, .inr (9, [.ref ph1, .ref ph2, .ref pg3, .ref pg4, .ref pg5, .ref pg6, .int px9, .int px10, .int 0])), (ph1, .inl (K 0, 256, .inl u6)), (ph2, .inl (K 0, 256, .inl u8))] := hD
    refine lv_iconst (v := 1) hx hb dX9_renew_50 (by decide) ?_
    exact uRz (px9, px10, u6, u8) B rfl (Or.inr ⟨rfl, rfl, rfl, ⟨c1, c2, c3, c4⟩⟩) (uSub hP [0, 1, 2] rfl) (hD.sub [0, 1, 2] rfl rfl) hS dX9_renew_51
  refine lv_iconst (v := 0) hx hb dX9_renew_22 (by decide) ?_
  exact uRz (4, 4, pf7, pf8) B rfl (Or.inl ⟨rfl, rfl, rfl, Or.inr (Or.inr (Or.inr ⟨c1, c2, c3, c4⟩))⟩) (uSub hP [0, 1, 2] rfl) (hD.sub [0, 1, 2] rfl rfl) hS dX9_renew_23
def qkX3_clear_27 (ph0 : Nat) (pg1 : Nat) (pg2 : Nat) (pg3 : Nat) (pg4 : Nat) (pg5 : Nat) (pg6 : Nat) : Unit → Prop := (fun (u : Unit) => True)
def vkX3_clear_27 (K : Nat → ClassId) (ph0 : Nat) (pg1 : Nat) (pg2 : Nat) (pg3 : Nat) (pg4 : Nat) (pg5 : Nat) (pg6 : Nat) : (Unit) → va_W := (fun (u : Unit) => [(ph0, .inr (3, [.ref pg1, .ref pg2, .ref pg3, .ref pg4, .ref pg5, .ref pg6, .int 0, .int (-1), .int 1, .int 0]))])
set_option maxHeartbeats 4000000 in
set_option maxRecDepth 100000 in
theorem kX3_clear_27 (l : Launch) (D : va_G) (K : Nat → ClassId) (sz : Nat) (ph0 : Nat) (pg1 : Nat) (pg2 : Nat) (pg3 : Nat) (pg4 : Nat) (pg5 : Nat) (pg6 : Nat) : uMv l yX3_clear cX3_clear 1 { frames := 0, cells := 0, slots := 0, locals := 0 } [.ref ph0] D K [(ph0, .inr (3, [.ref pg1, .ref pg2, .ref pg3, .ref pg4, .ref pg5, .ref pg6, .int 0, .int (-1), .int 1, .int 0]))] sz (qkX3_clear_27 ph0 pg1 pg2 pg3 pg4 pg5 pg6) (vkX3_clear_27 K ph0 pg1 pg2 pg3 pg4 pg5 pg6) := by
  refine uMet (Qc := uQv D (qkX3_clear_27 ph0 pg1 pg2 pg3 pg4 pg5 pg6) (vkX3_clear_27 K ph0 pg1 pg2 pg3 pg4 pg5 pg6)) (ret := none) (by decide) (Nat.le_of_ble_eq_true rfl) ?_
  intro p e s m below meth c A ls hAe hsz B hP hD hS hl
  have hx := B.1
  have hb := B.2.1
  have hl : lv_has ls 1 [(0, .ref ph0)] := hl
  refine lv_aload_n hx hb dX3_clear_0 rfl (lv_at hl 0 rfl) ?_
  refine lv_iconst (v := 0) hx hb dX3_clear_1 (by decide) ?_
  refine uPut (ci := 3) (C := RX3) (T := TX3) (N := 10) (ws' := [(ph0, .inr (3, [.ref pg1, .ref pg2, .ref pg3, .ref pg4, .ref pg5, .ref pg6, .int 0, .int (-1), .int 1, .int 0]))]) B inlX3 tyX3_ok nmX3 hP hD hS 0 rfl rfl 6 rfl mfl_X3_31 rfl rfl rfl rfl rfl rfl dX3_clear_2 (fun H locs hP hD hS => ?_)
  refine lv_aload_n hx hb dX3_clear_5 rfl (lv_at hl 0 rfl) ?_
  refine lv_iconst (v := (-1)) hx hb dX3_clear_6 (by decide) ?_
  refine lv_pc (q := 7) rfl ?_
  refine uPut (ci := 3) (C := RX3) (T := TX3) (N := 10) (ws' := [(ph0, .inr (3, [.ref pg1, .ref pg2, .ref pg3, .ref pg4, .ref pg5, .ref pg6, .int 0, .int (-1), .int 1, .int 0]))]) B inlX3 tyX3_ok nmX3 hP hD hS 0 rfl rfl 7 rfl mfl_X3_35 rfl rfl rfl rfl rfl rfl dX3_clear_7 (fun H locs hP hD hS => ?_)
  refine lv_aload_n hx hb dX3_clear_10 rfl (lv_at hl 0 rfl) ?_
  refine lv_iconst (v := 0) hx hb dX3_clear_11 (by decide) ?_
  refine uPut (ci := 3) (C := RX3) (T := TX3) (N := 10) (ws' := [(ph0, .inr (3, [.ref pg1, .ref pg2, .ref pg3, .ref pg4, .ref pg5, .ref pg6, .int 0, .int (-1), .int 1, .int 0]))]) B inlX3 tyX3_ok nmX3 hP hD hS 0 rfl rfl 9 rfl mfl_X3_42 rfl rfl rfl rfl rfl rfl dX3_clear_12 (fun H locs hP hD hS => ?_)
  exact uRv () B trivial (uSub hP [0] rfl) (hD.sub [0] rfl rfl) hS dX3_clear_15
def qkX6_clear_28 (ph0 : Nat) (pg1 : Nat) (pg2 : Nat) : Unit → Prop := (fun (u : Unit) => True)
def vkX6_clear_28 (K : Nat → ClassId) (ph0 : Nat) (pg1 : Nat) (pg2 : Nat) : (Unit) → va_W := (fun (u : Unit) => [(ph0, .inr (6, [.ref pg1, .ref pg2, .int 0, .int (-1), .int 0]))])
set_option maxHeartbeats 4000000 in
set_option maxRecDepth 100000 in
theorem kX6_clear_28 (l : Launch) (D : va_G) (K : Nat → ClassId) (sz : Nat) (ph0 : Nat) (pg1 : Nat) (pg2 : Nat) : uMv l yX6_clear cX6_clear 1 { frames := 0, cells := 0, slots := 0, locals := 0 } [.ref ph0] D K [(ph0, .inr (6, [.ref pg1, .ref pg2, .int 0, .int (-1), .int 0]))] sz (qkX6_clear_28 ph0 pg1 pg2) (vkX6_clear_28 K ph0 pg1 pg2) := by
  refine uMet (Qc := uQv D (qkX6_clear_28 ph0 pg1 pg2) (vkX6_clear_28 K ph0 pg1 pg2)) (ret := none) (by decide) (Nat.le_of_ble_eq_true rfl) ?_
  intro p e s m below meth c A ls hAe hsz B hP hD hS hl
  have hx := B.1
  have hb := B.2.1
  have hl : lv_has ls 1 [(0, .ref ph0)] := hl
  refine lv_aload_n hx hb dX6_clear_0 rfl (lv_at hl 0 rfl) ?_
  refine lv_iconst (v := 0) hx hb dX6_clear_1 (by decide) ?_
  refine uPut (ci := 6) (C := RX6) (T := TX6) (N := 5) (ws' := [(ph0, .inr (6, [.ref pg1, .ref pg2, .int 0, .int (-1), .int 0]))]) B inlX6 tyX6_ok nmX6 hP hD hS 0 rfl rfl 4 rfl mfl_X6_25 rfl rfl rfl rfl rfl rfl dX6_clear_2 (fun H locs hP hD hS => ?_)
  refine lv_aload_n hx hb dX6_clear_5 rfl (lv_at hl 0 rfl) ?_
  refine lv_iconst (v := 0) hx hb dX6_clear_6 (by decide) ?_
  refine lv_pc (q := 7) rfl ?_
  refine uPut (ci := 6) (C := RX6) (T := TX6) (N := 5) (ws' := [(ph0, .inr (6, [.ref pg1, .ref pg2, .int 0, .int (-1), .int 0]))]) B inlX6 tyX6_ok nmX6 hP hD hS 0 rfl rfl 2 rfl mfl_X6_18 rfl rfl rfl rfl rfl rfl dX6_clear_7 (fun H locs hP hD hS => ?_)
  exact uRv () B trivial (uSub hP [0] rfl) (hD.sub [0] rfl rfl) hS dX6_clear_10
def qkX0_forgetWays_29 (ph0 : Nat) (ph1 : Nat) (pg2 : Nat) (pg3 : Nat) (pg4 : Nat) (pg5 : Nat) (pg6 : Nat) (pg7 : Nat) (pg8 : Nat) (pf9 : Nat → Int32) : ((Nat → Int32)) → Prop := (fun (u : (Nat → Int32)) => True)
def vkX0_forgetWays_29 (K : Nat → ClassId) (ph0 : Nat) (ph1 : Nat) (pg2 : Nat) (pg3 : Nat) (pg4 : Nat) (pg5 : Nat) (pg6 : Nat) (pg7 : Nat) (pg8 : Nat) (pf9 : Nat → Int32) : ((Nat → Int32)) → va_W := (fun (u : (Nat → Int32)) => [(ph0, .inr (0, [.ref pg2, .ref pg3, .ref pg4, .ref ph1, .ref pg5, .ref pg6, .ref pg7, .ref pg8, .int 0])), (ph1, .inl (K 1, 12, .inl u))])
set_option maxHeartbeats 4000000 in
set_option maxRecDepth 100000 in
theorem kX0_forgetWays_29 (l : Launch) (D : va_G) (K : Nat → ClassId) (sz : Nat) (ph0 : Nat) (ph1 : Nat) (pg2 : Nat) (pg3 : Nat) (pg4 : Nat) (pg5 : Nat) (pg6 : Nat) (pg7 : Nat) (pg8 : Nat) (pf9 : Nat → Int32) (hbpf9 : ∀ k, pf9 k = 0 ∨ pf9 k = 1) : uMv l yX0_forgetWays cX0_forgetWays 2 { frames := 0, cells := 0, slots := 0, locals := 0 } [.ref ph0] D K [(ph0, .inr (0, [.ref pg2, .ref pg3, .ref pg4, .ref ph1, .ref pg5, .ref pg6, .ref pg7, .ref pg8, .int 0])), (ph1, .inl (K 1, 12, .inl pf9))] sz (qkX0_forgetWays_29 ph0 ph1 pg2 pg3 pg4 pg5 pg6 pg7 pg8 pf9) (vkX0_forgetWays_29 K ph0 ph1 pg2 pg3 pg4 pg5 pg6 pg7 pg8 pf9) := by
  refine uMet (Qc := uQv D (qkX0_forgetWays_29 ph0 ph1 pg2 pg3 pg4 pg5 pg6 pg7 pg8 pf9) (vkX0_forgetWays_29 K ph0 ph1 pg2 pg3 pg4 pg5 pg6 pg7 pg8 pf9)) (ret := none) (by decide) (Nat.le_of_ble_eq_true rfl) ?_
  intro p e s m below meth c A ls hAe hsz B hP hD hS hl
  have hx := B.1
  have hb := B.2.1
  have hl : lv_has ls 2 [(0, .ref ph0)] := hl
  refine lv_iconst (v := 0) hx hb dX0_forgetWays_0 (by decide) ?_
  refine lv_istore_n (lv' := [(1, .int 0), (0, .ref ph0)]) hx hb dX0_forgetWays_1 rfl hl (by decide) rfl (fun ls hl => ?_)
  refine lv_iload_n hx hb dX0_forgetWays_2 rfl (lv_at hl 0 rfl) ?_
  refine lv_bipush (v := 12) hx hb dX0_forgetWays_3 (by decide) ?_
  refine lv_icmp_ge (tgt := 21) hx hb dX0_forgetWays_5 (by decide) (fun h9 => absurd h9 (by decide)) (fun _ => ?_)
  refine lv_pc (q := 8) rfl ?_
  refine lv_aload_n hx hb dX0_forgetWays_8 rfl (lv_at hl 1 rfl) ?_
  refine uGet (ci := 0) (C := RX0) (T := TX0) (N := 9) (v := .ref ph1) B inlX0 hP 0 rfl rfl 3 rfl mfl_X0_20 rfl rfl dX0_forgetWays_9 ?_
  refine lv_iload_n hx hb dX0_forgetWays_12 rfl (lv_at hl 0 rfl) ?_
  refine lv_iconst (v := 0) hx hb dX0_forgetWays_13 (by decide) ?_
  refine uZast (i := 0) (j := 0) (ws' := [(ph0, .inr (0, [.ref pg2, .ref pg3, .ref pg4, .ref ph1, .ref pg5, .ref pg6, .ref pg7, .ref pg8, .int 0])), (ph1, .inl (K 1, 12, .inl (upd pf9 0 0)))]) B hP hD hS 1 rfl (by decide) rfl rfl rfl dX0_forgetWays_14 (fun H locs hP hD hS => ?_)
  refine lv_iinc (v := 1) (lv' := [(1, .int 1), (0, .ref ph0)]) hx hb dX0_forgetWays_15 hl (k := 0) rfl (by decide) (by decide) rfl (fun ls hl => ?_)
  refine lv_pc (q := 18) rfl ?_
  refine lv_goto (tgt := 2) hx hb dX0_forgetWays_18 (by decide) ?_
  refine lv_iload_n hx hb dX0_forgetWays_2 rfl (lv_at hl 0 rfl) ?_
  refine lv_bipush (v := 12) hx hb dX0_forgetWays_3 (by decide) ?_
  refine lv_icmp_ge (tgt := 21) hx hb dX0_forgetWays_5 (by decide) (fun h9 => absurd h9 (by decide)) (fun _ => ?_)
  refine lv_aload_n hx hb dX0_forgetWays_8 rfl (lv_at hl 1 rfl) ?_
  refine uGet (ci := 0) (C := RX0) (T := TX0) (N := 9) (v := .ref ph1) B inlX0 hP 0 rfl rfl 3 rfl mfl_X0_20 rfl rfl dX0_forgetWays_9 ?_
  refine lv_pc (q := 12) rfl ?_
  refine lv_iload_n hx hb dX0_forgetWays_12 rfl (lv_at hl 0 rfl) ?_
  refine lv_iconst (v := 0) hx hb dX0_forgetWays_13 (by decide) ?_
  refine uZast (i := 1) (j := 1) (ws' := [(ph0, .inr (0, [.ref pg2, .ref pg3, .ref pg4, .ref ph1, .ref pg5, .ref pg6, .ref pg7, .ref pg8, .int 0])), (ph1, .inl (K 1, 12, .inl (upd (upd pf9 0 0) 1 0)))]) B hP hD hS 1 rfl (by decide) rfl rfl rfl dX0_forgetWays_14 (fun H locs hP hD hS => ?_)
  refine lv_iinc (v := 2) (lv' := [(1, .int 2), (0, .ref ph0)]) hx hb dX0_forgetWays_15 hl (k := 0) rfl (by decide) (by decide) rfl (fun ls hl => ?_)
  refine lv_goto (tgt := 2) hx hb dX0_forgetWays_18 (by decide) ?_
  refine lv_iload_n hx hb dX0_forgetWays_2 rfl (lv_at hl 0 rfl) ?_
  refine lv_pc (q := 3) rfl ?_
  refine lv_bipush (v := 12) hx hb dX0_forgetWays_3 (by decide) ?_
  refine lv_icmp_ge (tgt := 21) hx hb dX0_forgetWays_5 (by decide) (fun h9 => absurd h9 (by decide)) (fun _ => ?_)
  refine lv_aload_n hx hb dX0_forgetWays_8 rfl (lv_at hl 1 rfl) ?_
  refine uGet (ci := 0) (C := RX0) (T := TX0) (N := 9) (v := .ref ph1) B inlX0 hP 0 rfl rfl 3 rfl mfl_X0_20 rfl rfl dX0_forgetWays_9 ?_
  refine lv_iload_n hx hb dX0_forgetWays_12 rfl (lv_at hl 0 rfl) ?_
  refine lv_iconst (v := 0) hx hb dX0_forgetWays_13 (by decide) ?_
  refine lv_pc (q := 14) rfl ?_
  refine uZast (i := 2) (j := 2) (ws' := [(ph0, .inr (0, [.ref pg2, .ref pg3, .ref pg4, .ref ph1, .ref pg5, .ref pg6, .ref pg7, .ref pg8, .int 0])), (ph1, .inl (K 1, 12, .inl (upd (upd (upd pf9 0 0) 1 0) 2 0)))]) B hP hD hS 1 rfl (by decide) rfl rfl rfl dX0_forgetWays_14 (fun H locs hP hD hS => ?_)
  refine lv_iinc (v := 3) (lv' := [(1, .int 3), (0, .ref ph0)]) hx hb dX0_forgetWays_15 hl (k := 0) rfl (by decide) (by decide) rfl (fun ls hl => ?_)
  refine lv_goto (tgt := 2) hx hb dX0_forgetWays_18 (by decide) ?_
  refine lv_iload_n hx hb dX0_forgetWays_2 rfl (lv_at hl 0 rfl) ?_
  refine lv_bipush (v := 12) hx hb dX0_forgetWays_3 (by decide) ?_
  refine lv_icmp_ge (tgt := 21) hx hb dX0_forgetWays_5 (by decide) (fun h9 => absurd h9 (by decide)) (fun _ => ?_)
  refine lv_pc (q := 8) rfl ?_
  refine lv_aload_n hx hb dX0_forgetWays_8 rfl (lv_at hl 1 rfl) ?_
  refine uGet (ci := 0) (C := RX0) (T := TX0) (N := 9) (v := .ref ph1) B inlX0 hP 0 rfl rfl 3 rfl mfl_X0_20 rfl rfl dX0_forgetWays_9 ?_
  refine lv_iload_n hx hb dX0_forgetWays_12 rfl (lv_at hl 0 rfl) ?_
  refine lv_iconst (v := 0) hx hb dX0_forgetWays_13 (by decide) ?_
  refine uZast (i := 3) (j := 3) (ws' := [(ph0, .inr (0, [.ref pg2, .ref pg3, .ref pg4, .ref ph1, .ref pg5, .ref pg6, .ref pg7, .ref pg8, .int 0])), (ph1, .inl (K 1, 12, .inl (upd (upd (upd (upd pf9 0 0) 1 0) 2 0) 3 0)))]) B hP hD hS 1 rfl (by decide) rfl rfl rfl dX0_forgetWays_14 (fun H locs hP hD hS => ?_)
  refine lv_iinc (v := 4) (lv' := [(1, .int 4), (0, .ref ph0)]) hx hb dX0_forgetWays_15 hl (k := 0) rfl (by decide) (by decide) rfl (fun ls hl => ?_)
  refine lv_pc (q := 18) rfl ?_
  refine lv_goto (tgt := 2) hx hb dX0_forgetWays_18 (by decide) ?_
  refine lv_iload_n hx hb dX0_forgetWays_2 rfl (lv_at hl 0 rfl) ?_
  refine lv_bipush (v := 12) hx hb dX0_forgetWays_3 (by decide) ?_
  refine lv_icmp_ge (tgt := 21) hx hb dX0_forgetWays_5 (by decide) (fun h9 => absurd h9 (by decide)) (fun _ => ?_)
  refine lv_aload_n hx hb dX0_forgetWays_8 rfl (lv_at hl 1 rfl) ?_
  refine uGet (ci := 0) (C := RX0) (T := TX0) (N := 9) (v := .ref ph1) B inlX0 hP 0 rfl rfl 3 rfl mfl_X0_20 rfl rfl dX0_forgetWays_9 ?_
  refine lv_pc (q := 12) rfl ?_
  refine lv_iload_n hx hb dX0_forgetWays_12 rfl (lv_at hl 0 rfl) ?_
  refine lv_iconst (v := 0) hx hb dX0_forgetWays_13 (by decide) ?_
  refine uZast (i := 4) (j := 4) (ws' := [(ph0, .inr (0, [.ref pg2, .ref pg3, .ref pg4, .ref ph1, .ref pg5, .ref pg6, .ref pg7, .ref pg8, .int 0])), (ph1, .inl (K 1, 12, .inl (upd (upd (upd (upd (upd pf9 0 0) 1 0) 2 0) 3 0) 4 0)))]) B hP hD hS 1 rfl (by decide) rfl rfl rfl dX0_forgetWays_14 (fun H locs hP hD hS => ?_)
  refine lv_iinc (v := 5) (lv' := [(1, .int 5), (0, .ref ph0)]) hx hb dX0_forgetWays_15 hl (k := 0) rfl (by decide) (by decide) rfl (fun ls hl => ?_)
  refine lv_goto (tgt := 2) hx hb dX0_forgetWays_18 (by decide) ?_
  refine lv_iload_n hx hb dX0_forgetWays_2 rfl (lv_at hl 0 rfl) ?_
  refine lv_pc (q := 3) rfl ?_
  refine lv_bipush (v := 12) hx hb dX0_forgetWays_3 (by decide) ?_
  refine lv_icmp_ge (tgt := 21) hx hb dX0_forgetWays_5 (by decide) (fun h9 => absurd h9 (by decide)) (fun _ => ?_)
  refine lv_aload_n hx hb dX0_forgetWays_8 rfl (lv_at hl 1 rfl) ?_
  refine uGet (ci := 0) (C := RX0) (T := TX0) (N := 9) (v := .ref ph1) B inlX0 hP 0 rfl rfl 3 rfl mfl_X0_20 rfl rfl dX0_forgetWays_9 ?_
  refine lv_iload_n hx hb dX0_forgetWays_12 rfl (lv_at hl 0 rfl) ?_
  refine lv_iconst (v := 0) hx hb dX0_forgetWays_13 (by decide) ?_
  refine lv_pc (q := 14) rfl ?_
  refine uZast (i := 5) (j := 5) (ws' := [(ph0, .inr (0, [.ref pg2, .ref pg3, .ref pg4, .ref ph1, .ref pg5, .ref pg6, .ref pg7, .ref pg8, .int 0])), (ph1, .inl (K 1, 12, .inl (upd (upd (upd (upd (upd (upd pf9 0 0) 1 0) 2 0) 3 0) 4 0) 5 0)))]) B hP hD hS 1 rfl (by decide) rfl rfl rfl dX0_forgetWays_14 (fun H locs hP hD hS => ?_)
  refine lv_iinc (v := 6) (lv' := [(1, .int 6), (0, .ref ph0)]) hx hb dX0_forgetWays_15 hl (k := 0) rfl (by decide) (by decide) rfl (fun ls hl => ?_)
  refine lv_goto (tgt := 2) hx hb dX0_forgetWays_18 (by decide) ?_
  refine lv_iload_n hx hb dX0_forgetWays_2 rfl (lv_at hl 0 rfl) ?_
  refine lv_bipush (v := 12) hx hb dX0_forgetWays_3 (by decide) ?_
  refine lv_icmp_ge (tgt := 21) hx hb dX0_forgetWays_5 (by decide) (fun h9 => absurd h9 (by decide)) (fun _ => ?_)
  refine lv_pc (q := 8) rfl ?_
  refine lv_aload_n hx hb dX0_forgetWays_8 rfl (lv_at hl 1 rfl) ?_
  refine uGet (ci := 0) (C := RX0) (T := TX0) (N := 9) (v := .ref ph1) B inlX0 hP 0 rfl rfl 3 rfl mfl_X0_20 rfl rfl dX0_forgetWays_9 ?_
  refine lv_iload_n hx hb dX0_forgetWays_12 rfl (lv_at hl 0 rfl) ?_
  refine lv_iconst (v := 0) hx hb dX0_forgetWays_13 (by decide) ?_
  refine uZast (i := 6) (j := 6) (ws' := [(ph0, .inr (0, [.ref pg2, .ref pg3, .ref pg4, .ref ph1, .ref pg5, .ref pg6, .ref pg7, .ref pg8, .int 0])), (ph1, .inl (K 1, 12, .inl (upd (upd (upd (upd (upd (upd (upd pf9 0 0) 1 0) 2 0) 3 0) 4 0) 5 0) 6 0)))]) B hP hD hS 1 rfl (by decide) rfl rfl rfl dX0_forgetWays_14 (fun H locs hP hD hS => ?_)
  refine lv_iinc (v := 7) (lv' := [(1, .int 7), (0, .ref ph0)]) hx hb dX0_forgetWays_15 hl (k := 0) rfl (by decide) (by decide) rfl (fun ls hl => ?_)
  refine lv_pc (q := 18) rfl ?_
  refine lv_goto (tgt := 2) hx hb dX0_forgetWays_18 (by decide) ?_
  refine lv_iload_n hx hb dX0_forgetWays_2 rfl (lv_at hl 0 rfl) ?_
  refine lv_bipush (v := 12) hx hb dX0_forgetWays_3 (by decide) ?_
  refine lv_icmp_ge (tgt := 21) hx hb dX0_forgetWays_5 (by decide) (fun h9 => absurd h9 (by decide)) (fun _ => ?_)
  refine lv_aload_n hx hb dX0_forgetWays_8 rfl (lv_at hl 1 rfl) ?_
  refine uGet (ci := 0) (C := RX0) (T := TX0) (N := 9) (v := .ref ph1) B inlX0 hP 0 rfl rfl 3 rfl mfl_X0_20 rfl rfl dX0_forgetWays_9 ?_
  refine lv_pc (q := 12) rfl ?_
  refine lv_iload_n hx hb dX0_forgetWays_12 rfl (lv_at hl 0 rfl) ?_
  refine lv_iconst (v := 0) hx hb dX0_forgetWays_13 (by decide) ?_
  refine uZast (i := 7) (j := 7) (ws' := [(ph0, .inr (0, [.ref pg2, .ref pg3, .ref pg4, .ref ph1, .ref pg5, .ref pg6, .ref pg7, .ref pg8, .int 0])), (ph1, .inl (K 1, 12, .inl (upd (upd (upd (upd (upd (upd (upd (upd pf9 0 0) 1 0) 2 0) 3 0) 4 0) 5 0) 6 0) 7 0)))]) B hP hD hS 1 rfl (by decide) rfl rfl rfl dX0_forgetWays_14 (fun H locs hP hD hS => ?_)
  refine lv_iinc (v := 8) (lv' := [(1, .int 8), (0, .ref ph0)]) hx hb dX0_forgetWays_15 hl (k := 0) rfl (by decide) (by decide) rfl (fun ls hl => ?_)
  refine lv_goto (tgt := 2) hx hb dX0_forgetWays_18 (by decide) ?_
  refine lv_iload_n hx hb dX0_forgetWays_2 rfl (lv_at hl 0 rfl) ?_
  refine lv_pc (q := 3) rfl ?_
  refine lv_bipush (v := 12) hx hb dX0_forgetWays_3 (by decide) ?_
  refine lv_icmp_ge (tgt := 21) hx hb dX0_forgetWays_5 (by decide) (fun h9 => absurd h9 (by decide)) (fun _ => ?_)
  refine lv_aload_n hx hb dX0_forgetWays_8 rfl (lv_at hl 1 rfl) ?_
  refine uGet (ci := 0) (C := RX0) (T := TX0) (N := 9) (v := .ref ph1) B inlX0 hP 0 rfl rfl 3 rfl mfl_X0_20 rfl rfl dX0_forgetWays_9 ?_
  refine lv_iload_n hx hb dX0_forgetWays_12 rfl (lv_at hl 0 rfl) ?_
  refine lv_iconst (v := 0) hx hb dX0_forgetWays_13 (by decide) ?_
  refine lv_pc (q := 14) rfl ?_
  refine uZast (i := 8) (j := 8) (ws' := [(ph0, .inr (0, [.ref pg2, .ref pg3, .ref pg4, .ref ph1, .ref pg5, .ref pg6, .ref pg7, .ref pg8, .int 0])), (ph1, .inl (K 1, 12, .inl (upd (upd (upd (upd (upd (upd (upd (upd (upd pf9 0 0) 1 0) 2 0) 3 0) 4 0) 5 0) 6 0) 7 0) 8 0)))]) B hP hD hS 1 rfl (by decide) rfl rfl rfl dX0_forgetWays_14 (fun H locs hP hD hS => ?_)
  refine lv_iinc (v := 9) (lv' := [(1, .int 9), (0, .ref ph0)]) hx hb dX0_forgetWays_15 hl (k := 0) rfl (by decide) (by decide) rfl (fun ls hl => ?_)
  refine lv_goto (tgt := 2) hx hb dX0_forgetWays_18 (by decide) ?_
  refine lv_iload_n hx hb dX0_forgetWays_2 rfl (lv_at hl 0 rfl) ?_
  refine lv_bipush (v := 12) hx hb dX0_forgetWays_3 (by decide) ?_
  refine lv_icmp_ge (tgt := 21) hx hb dX0_forgetWays_5 (by decide) (fun h9 => absurd h9 (by decide)) (fun _ => ?_)
  refine lv_pc (q := 8) rfl ?_
  refine lv_aload_n hx hb dX0_forgetWays_8 rfl (lv_at hl 1 rfl) ?_
  refine uGet (ci := 0) (C := RX0) (T := TX0) (N := 9) (v := .ref ph1) B inlX0 hP 0 rfl rfl 3 rfl mfl_X0_20 rfl rfl dX0_forgetWays_9 ?_
  refine lv_iload_n hx hb dX0_forgetWays_12 rfl (lv_at hl 0 rfl) ?_
  refine lv_iconst (v := 0) hx hb dX0_forgetWays_13 (by decide) ?_
  refine uZast (i := 9) (j := 9) (ws' := [(ph0, .inr (0, [.ref pg2, .ref pg3, .ref pg4, .ref ph1, .ref pg5, .ref pg6, .ref pg7, .ref pg8, .int 0])), (ph1, .inl (K 1, 12, .inl (upd (upd (upd (upd (upd (upd (upd (upd (upd (upd pf9 0 0) 1 0) 2 0) 3 0) 4 0) 5 0) 6 0) 7 0) 8 0) 9 0)))]) B hP hD hS 1 rfl (by decide) rfl rfl rfl dX0_forgetWays_14 (fun H locs hP hD hS => ?_)
  refine lv_iinc (v := 10) (lv' := [(1, .int 10), (0, .ref ph0)]) hx hb dX0_forgetWays_15 hl (k := 0) rfl (by decide) (by decide) rfl (fun ls hl => ?_)
  refine lv_pc (q := 18) rfl ?_
  refine lv_goto (tgt := 2) hx hb dX0_forgetWays_18 (by decide) ?_
  refine lv_iload_n hx hb dX0_forgetWays_2 rfl (lv_at hl 0 rfl) ?_
  refine lv_bipush (v := 12) hx hb dX0_forgetWays_3 (by decide) ?_
  refine lv_icmp_ge (tgt := 21) hx hb dX0_forgetWays_5 (by decide) (fun h9 => absurd h9 (by decide)) (fun _ => ?_)
  refine lv_aload_n hx hb dX0_forgetWays_8 rfl (lv_at hl 1 rfl) ?_
  refine uGet (ci := 0) (C := RX0) (T := TX0) (N := 9) (v := .ref ph1) B inlX0 hP 0 rfl rfl 3 rfl mfl_X0_20 rfl rfl dX0_forgetWays_9 ?_
  refine lv_pc (q := 12) rfl ?_
  refine lv_iload_n hx hb dX0_forgetWays_12 rfl (lv_at hl 0 rfl) ?_
  refine lv_iconst (v := 0) hx hb dX0_forgetWays_13 (by decide) ?_
  refine uZast (i := 10) (j := 10) (ws' := [(ph0, .inr (0, [.ref pg2, .ref pg3, .ref pg4, .ref ph1, .ref pg5, .ref pg6, .ref pg7, .ref pg8, .int 0])), (ph1, .inl (K 1, 12, .inl (upd (upd (upd (upd (upd (upd (upd (upd (upd (upd (upd pf9 0 0) 1 0) 2 0) 3 0) 4 0) 5 0) 6 0) 7 0) 8 0) 9 0) 10 0)))]) B hP hD hS 1 rfl (by decide) rfl rfl rfl dX0_forgetWays_14 (fun H locs hP hD hS => ?_)
  refine lv_iinc (v := 11) (lv' := [(1, .int 11), (0, .ref ph0)]) hx hb dX0_forgetWays_15 hl (k := 0) rfl (by decide) (by decide) rfl (fun ls hl => ?_)
  refine lv_goto (tgt := 2) hx hb dX0_forgetWays_18 (by decide) ?_
  refine lv_iload_n hx hb dX0_forgetWays_2 rfl (lv_at hl 0 rfl) ?_
  refine lv_pc (q := 3) rfl ?_
  refine lv_bipush (v := 12) hx hb dX0_forgetWays_3 (by decide) ?_
  refine lv_icmp_ge (tgt := 21) hx hb dX0_forgetWays_5 (by decide) (fun h9 => absurd h9 (by decide)) (fun _ => ?_)
  refine lv_aload_n hx hb dX0_forgetWays_8 rfl (lv_at hl 1 rfl) ?_
  refine uGet (ci := 0) (C := RX0) (T := TX0) (N := 9) (v := .ref ph1) B inlX0 hP 0 rfl rfl 3 rfl mfl_X0_20 rfl rfl dX0_forgetWays_9 ?_
  refine lv_iload_n hx hb dX0_forgetWays_12 rfl (lv_at hl 0 rfl) ?_
  refine lv_iconst (v := 0) hx hb dX0_forgetWays_13 (by decide) ?_
  refine lv_pc (q := 14) rfl ?_
  refine uZast (i := 11) (j := 11) (ws' := [(ph0, .inr (0, [.ref pg2, .ref pg3, .ref pg4, .ref ph1, .ref pg5, .ref pg6, .ref pg7, .ref pg8, .int 0])), (ph1, .inl (K 1, 12, .inl (upd (upd (upd (upd (upd (upd (upd (upd (upd (upd (upd (upd pf9 0 0) 1 0) 2 0) 3 0) 4 0) 5 0) 6 0) 7 0) 8 0) 9 0) 10 0) 11 0)))]) B hP hD hS 1 rfl (by decide) rfl rfl rfl dX0_forgetWays_14 (fun H locs hP hD hS => ?_)
  obtain ⟨f1, ef1⟩ : ∃ y : Nat → Int32, y = upd (upd (upd (upd (upd (upd (upd (upd (upd (upd (upd (upd pf9 0 0) 1 0) 2 0) 3 0) 4 0) 5 0) 6 0) 7 0) 8 0) 9 0) 10 0) 11 0 := ⟨_, rfl⟩
  rw [← ef1] at hP hD
  clear ef1
  refine lv_iinc (v := 12) (lv' := [(1, .int 12), (0, .ref ph0)]) hx hb dX0_forgetWays_15 hl (k := 0) rfl (by decide) (by decide) rfl (fun ls hl => ?_)
  refine lv_goto (tgt := 2) hx hb dX0_forgetWays_18 (by decide) ?_
  refine lv_iload_n hx hb dX0_forgetWays_2 rfl (lv_at hl 0 rfl) ?_
  refine lv_bipush (v := 12) hx hb dX0_forgetWays_3 (by decide) ?_
  refine lv_icmp_ge (tgt := 21) hx hb dX0_forgetWays_5 (by decide) (fun _ => ?_) (fun h9 => absurd (by decide) h9)
  refine lv_pc (q := 21) rfl ?_
  exact uRv f1 B trivial (uSub hP [0, 1] rfl) (hD.sub [0, 1] rfl rfl) hS dX0_forgetWays_21
def qkX11_land_30 (ph0 : Nat) (ph1 : Nat) (ph2 : Nat) (ph3 : Nat) (ph4 : Nat) (ph5 : Nat) (ph6 : Nat) (ph7 : Nat) (ph8 : Nat) (ph9 : Nat) (pg10 : Nat) (pg11 : Nat) (pg12 : Nat) (pg13 : Nat) (pg14 : Nat) (pg15 : Nat) (pg16 : Nat) (pg17 : Nat) (pg18 : Nat) (pf19 : Nat → Int32) (pf20 : Nat → Int32) (pg21 : Nat) (pg22 : Nat) (pg23 : Nat) (pg24 : Nat) (pg25 : Nat) (pg26 : Nat) (pg27 : Nat) (pg28 : Nat) (pg29 : Nat) (pg30 : Nat) (pg31 : Nat) (pg32 : Nat) (pg33 : Nat) (pg34 : Nat) (pg35 : Nat) (pg36 : Nat) (pg37 : Nat) (pg38 : Nat) (pg39 : Nat) (pg40 : Nat) (pg41 : Nat) (pg42 : Nat) (pg43 : Nat) (pg44 : Nat) (pg45 : Nat) (pg46 : Nat) (pg47 : Nat) (pg48 : Nat) (pg49 : Nat) (pg50 : Nat) (pg51 : Nat) (pf52 : Nat → Int32) (px53 : Int32) (px54 : Int32) : Int32 → (Unit) → Prop := (fun (r : Int32) (u : Unit) => (r = 0 ∧ (((px53 < 4) ∨ (¬ px53 < 4 ∧ 16 < px53) ∨ (¬ px53 < 4 ∧ ¬ 16 < px53 ∧ px54 < 4) ∨ (¬ px53 < 4 ∧ ¬ 16 < px53 ∧ ¬ px54 < 4 ∧ ¬ px54 ≤ 16)))) ∨ (r = 1 ∧ (¬ px53 < 4 ∧ ¬ 16 < px53 ∧ ¬ px54 < 4 ∧ px54 ≤ 16)))
def vkX11_land_30 (K : Nat → ClassId) (ph0 : Nat) (ph1 : Nat) (ph2 : Nat) (ph3 : Nat) (ph4 : Nat) (ph5 : Nat) (ph6 : Nat) (ph7 : Nat) (ph8 : Nat) (ph9 : Nat) (pg10 : Nat) (pg11 : Nat) (pg12 : Nat) (pg13 : Nat) (pg14 : Nat) (pg15 : Nat) (pg16 : Nat) (pg17 : Nat) (pg18 : Nat) (pf19 : Nat → Int32) (pf20 : Nat → Int32) (pg21 : Nat) (pg22 : Nat) (pg23 : Nat) (pg24 : Nat) (pg25 : Nat) (pg26 : Nat) (pg27 : Nat) (pg28 : Nat) (pg29 : Nat) (pg30 : Nat) (pg31 : Nat) (pg32 : Nat) (pg33 : Nat) (pg34 : Nat) (pg35 : Nat) (pg36 : Nat) (pg37 : Nat) (pg38 : Nat) (pg39 : Nat) (pg40 : Nat) (pg41 : Nat) (pg42 : Nat) (pg43 : Nat) (pg44 : Nat) (pg45 : Nat) (pg46 : Nat) (pg47 : Nat) (pg48 : Nat) (pg49 : Nat) (pg50 : Nat) (pg51 : Nat) (pf52 : Nat → Int32) (px53 : Int32) (px54 : Int32) : (Unit) → va_W := (fun (u : Unit) => [])
set_option maxHeartbeats 4000000 in
set_option maxRecDepth 100000 in
theorem kX11_land_30 (l : Launch) (D : va_G) (K : Nat → ClassId) (sz : Nat) (ph0 : Nat) (ph1 : Nat) (ph2 : Nat) (ph3 : Nat) (ph4 : Nat) (ph5 : Nat) (ph6 : Nat) (ph7 : Nat) (ph8 : Nat) (ph9 : Nat) (pg10 : Nat) (pg11 : Nat) (pg12 : Nat) (pg13 : Nat) (pg14 : Nat) (pg15 : Nat) (pg16 : Nat) (pg17 : Nat) (pg18 : Nat) (pf19 : Nat → Int32) (pf20 : Nat → Int32) (pg21 : Nat) (pg22 : Nat) (pg23 : Nat) (pg24 : Nat) (pg25 : Nat) (pg26 : Nat) (pg27 : Nat) (pg28 : Nat) (pg29 : Nat) (pg30 : Nat) (pg31 : Nat) (pg32 : Nat) (pg33 : Nat) (pg34 : Nat) (pg35 : Nat) (pg36 : Nat) (pg37 : Nat) (pg38 : Nat) (pg39 : Nat) (pg40 : Nat) (pg41 : Nat) (pg42 : Nat) (pg43 : Nat) (pg44 : Nat) (pg45 : Nat) (pg46 : Nat) (pg47 : Nat) (pg48 : Nat) (pg49 : Nat) (pg50 : Nat) (pg51 : Nat) (pf52 : Nat → Int32) (px53 : Int32) (px54 : Int32) (hbpf52 : ∀ k, pf52 k = 0 ∨ pf52 k = 1) : uMi l yX11_land cX11_land 3 (some .boolean) { frames := 2, cells := 0, slots := 0, locals := 45 } [.ref ph0, .int px53, .int px54] D K [(ph0, .inr (11, [.ref ph1, .ref ph4, .ref pg10, .ref ph5, .ref pg11, .ref ph6, .ref pg12, .ref pg13, .ref ph7, .ref ph8, .ref pg14])), (ph1, .inr (9, [.ref ph2, .ref ph3, .ref pg15, .ref pg16, .ref pg17, .ref pg18, .int 4, .int 4, .int 0])), (ph2, .inl (K 0, 256, .inl pf19)), (ph3, .inl (K 0, 256, .inl pf20)), (ph4, .inr (4, [.ref ph1, .ref pg21, .ref pg22, .ref pg23, .ref pg24, .ref pg25, .ref pg26, .ref pg27, .ref pg28, .int 0])), (ph5, .inr (3, [.ref pg29, .ref pg30, .ref pg31, .ref pg32, .ref pg33, .ref pg34, .int 0, .int (-1), .int 1, .int 0])), (ph6, .inr (6, [.ref pg35, .ref pg36, .int 0, .int (-1), .int 0])), (ph7, .inr (2, [.ref pg11, .ref pg14, .int 0, .int 0, .ref pg37, .ref pg38, .ref pg39, .ref pg40, .ref pg41, .ref pg42, .ref pg43, .ref pg44, .ref pg45, .ref pg46])), (ph8, .inr (0, [.ref ph1, .ref ph4, .ref pg47, .ref ph9, .ref pg48, .ref pg49, .ref pg50, .ref pg51, .int 0])), (ph9, .inl (K 1, 12, .inl pf52))] sz (qkX11_land_30 ph0 ph1 ph2 ph3 ph4 ph5 ph6 ph7 ph8 ph9 pg10 pg11 pg12 pg13 pg14 pg15 pg16 pg17 pg18 pf19 pf20 pg21 pg22 pg23 pg24 pg25 pg26 pg27 pg28 pg29 pg30 pg31 pg32 pg33 pg34 pg35 pg36 pg37 pg38 pg39 pg40 pg41 pg42 pg43 pg44 pg45 pg46 pg47 pg48 pg49 pg50 pg51 pf52 px53 px54) (vkX11_land_30 K ph0 ph1 ph2 ph3 ph4 ph5 ph6 ph7 ph8 ph9 pg10 pg11 pg12 pg13 pg14 pg15 pg16 pg17 pg18 pf19 pf20 pg21 pg22 pg23 pg24 pg25 pg26 pg27 pg28 pg29 pg30 pg31 pg32 pg33 pg34 pg35 pg36 pg37 pg38 pg39 pg40 pg41 pg42 pg43 pg44 pg45 pg46 pg47 pg48 pg49 pg50 pg51 pf52 px53 px54) := by
  refine uMet (Qc := uQi D (qkX11_land_30 ph0 ph1 ph2 ph3 ph4 ph5 ph6 ph7 ph8 ph9 pg10 pg11 pg12 pg13 pg14 pg15 pg16 pg17 pg18 pf19 pf20 pg21 pg22 pg23 pg24 pg25 pg26 pg27 pg28 pg29 pg30 pg31 pg32 pg33 pg34 pg35 pg36 pg37 pg38 pg39 pg40 pg41 pg42 pg43 pg44 pg45 pg46 pg47 pg48 pg49 pg50 pg51 pf52 px53 px54) (vkX11_land_30 K ph0 ph1 ph2 ph3 ph4 ph5 ph6 ph7 ph8 ph9 pg10 pg11 pg12 pg13 pg14 pg15 pg16 pg17 pg18 pf19 pf20 pg21 pg22 pg23 pg24 pg25 pg26 pg27 pg28 pg29 pg30 pg31 pg32 pg33 pg34 pg35 pg36 pg37 pg38 pg39 pg40 pg41 pg42 pg43 pg44 pg45 pg46 pg47 pg48 pg49 pg50 pg51 pf52 px53 px54)) (ret := (some .boolean)) (by decide) (Nat.le_of_ble_eq_true rfl) ?_
  intro p e s m below meth c A ls hAe hsz B hP hD hS hl
  have hx := B.1
  have hb := B.2.1
  have hl : lv_has ls 3 [(0, .ref ph0), (1, .int px53), (2, .int px54)] := hl
  refine lv_aload_n hx hb dX11_land_0 rfl (lv_at hl 0 rfl) ?_
  refine uGet (ci := 11) (C := RX11) (T := TX11) (N := 11) (v := .ref ph1) B inlX11 hP 0 rfl rfl 0 rfl mfl_X11_10 rfl rfl dX11_land_1 ?_
  refine lv_iload_n hx hb dX11_land_4 rfl (lv_at hl 1 rfl) ?_
  refine lv_iload_n hx hb dX11_land_5 rfl (lv_at hl 2 rfl) ?_
  refine uVi (As := [.int px53, .int px54]) (rest := []) (wr := [(ph0, .inr (11, [.ref ph1, .ref ph4, .ref pg10, .ref ph5, .ref pg11, .ref ph6, .ref pg12, .ref pg13, .ref ph7, .ref ph8, .ref pg14])), (ph4, .inr (4, [.ref ph1, .ref pg21, .ref pg22, .ref pg23, .ref pg24, .ref pg25, .ref pg26, .ref pg27, .ref pg28, .int 0])), (ph5, .inr (3, [.ref pg29, .ref pg30, .ref pg31, .ref pg32, .ref pg33, .ref pg34, .int 0, .int (-1), .int 1, .int 0])), (ph6, .inr (6, [.ref pg35, .ref pg36, .int 0, .int (-1), .int 0])), (ph7, .inr (2, [.ref pg11, .ref pg14, .int 0, .int 0, .ref pg37, .ref pg38, .ref pg39, .ref pg40, .ref pg41, .ref pg42, .ref pg43, .ref pg44, .ref pg45, .ref pg46])), (ph8, .inr (0, [.ref ph1, .ref ph4, .ref pg47, .ref ph9, .ref pg48, .ref pg49, .ref pg50, .ref pg51, .int 0])), (ph9, .inl (K 1, 12, .inl pf52))]) [(ph1, .inr (9, [.ref ph2, .ref ph3, .ref pg15, .ref pg16, .ref pg17, .ref pg18, .int 4, .int 4, .int 0])), (ph2, .inl (K 0, 256, .inl pf19)), (ph3, .inl (K 0, 256, .inl pf20))] B hl.1 hP hD hS [1, 2, 3] [0, 4, 5, 6, 7, 8, 9] rfl rfl rfl (kX9_renew_26 l D K _ ph1 ph2 ph3 pg15 pg16 pg17 pg18 pf19 pf20 px53 px54) wd_X9_renew mml_X11_96 rfl rfl rfl rfl ⟨Nat.le_of_ble_eq_true rfl, Nat.le_of_ble_eq_true rfl⟩ (Nat.le_of_ble_eq_true rfl) ⟨Nat.le_of_ble_eq_true rfl, Nat.le_of_ble_eq_true rfl⟩ dX11_land_6 (fun r1 u H locs hw hP hD hS => ?_)
  obtain ⟨u2, u3, u4, u5⟩ := u
  try dsimp only at hw
  rcases hw with ⟨rfl, rfl, rfl, w6⟩ | ⟨rfl, e7, e8, ⟨w9, w10, w11, w12⟩⟩
  · have hP : va_P D vwCl [(ph0, .inr (11, [.ref ph1, .ref ph4, .ref pg10, .ref ph5, .ref pg11, .ref ph6, .ref pg12, .ref pg13, .ref ph7, .ref ph8, .ref pg14])), (ph4, .inr (4, [.ref ph1, .ref pg21, .ref pg22, .ref pg23, .ref pg24, .ref pg25, .ref pg26, .ref pg27, .ref pg28, .int 0])), (ph5, .inr (3, [.ref pg29, .ref pg30, .ref pg31, .ref pg32, .ref pg33, .ref pg34, .int 0, .int (-1), .int 1, .int 0])), (ph6, .inr (6, [.ref pg35, .ref pg36, .int 0, .int (-1), .int 0])), (ph7, .inr (2, [.ref pg11, .ref pg14, .int 0, .int 0, .ref pg37, .ref pg38, .ref pg39, .ref pg40, .ref pg41, .ref pg42, .ref pg43, .ref pg44, .ref pg45, .ref pg46])), (ph8, .inr (0, [.ref ph1, .ref ph4, .ref pg47, .ref ph9, .ref pg48, .ref pg49, .ref pg50, .ref pg51, .int 0])), (ph9, .inl (K 1, 12, .inl pf52)), (ph1, .inr (9, [.ref ph2, .ref ph3, .ref pg15, .ref pg16, .ref pg17, .ref pg18, .int 4, .int 4, .int 0])), (ph2, .inl (K 0, 256, .inl u4)), (ph3, .inl (K 0, 256, .inl u5))] H := hP
    have hD : va_D A [(ph0, .inr (11, [.ref ph1, .ref ph4, .ref pg10, .ref ph5, .ref pg11, .ref ph6, .ref pg12, .ref pg13, .ref ph7, .ref ph8, .ref pg14])), (ph4, .inr (4, [.ref ph1, .ref pg21, .ref pg22, .ref pg23, .ref pg24, .ref pg25, .ref pg26, .ref pg27, .ref pg28, .int 0])), (ph5, .inr (3, [.ref pg29, .ref pg30, .ref pg31, .ref pg32, .ref pg33, .ref pg34, .int 0, .int (-1), .int 1, .int 0])), (ph6, .inr (6, [.ref pg35, .ref pg36, .int 0, .int (-1), .int 0])), (ph7, .inr (2, [.ref pg11, .ref pg14, .int 0, .int 0, .ref pg37, .ref pg38, .ref pg39, .ref pg40, .ref pg41, .ref pg42, .ref pg43, .ref pg44, .ref pg45, .ref pg46])), (ph8, .inr (0, [.ref ph1, .ref ph4, .ref pg47, .ref ph9, .ref pg48, .ref pg49, .ref pg50, .ref pg51, .int 0])), (ph9, .inl (K 1, 12, .inl pf52)), (ph1, .inr (9, [.ref ph2, .ref ph3, .ref pg15, .ref pg16, .ref pg17, .ref pg18, .int 4, .int 4, .int 0])), (ph2, .inl (K 0, 256, .inl u4)), (ph3, .inl (K 0, 256, .inl u5))] := hD
    refine lv_pc (q := 9) rfl ?_
    refine lv_if_ne (tgt := 14) hx hb dX11_land_9 (by decide) (fun h9 => absurd (by decide) h9) (fun _ => ?_)
    refine lv_iconst (v := 0) hx hb dX11_land_12 (by decide) ?_
    exact uRz () B rfl (Or.inl ⟨rfl, w6⟩) (uSub hP [] rfl) (hD.sub [] rfl rfl) hS dX11_land_13
  replace e7 := e7.symm
  subst e7
  replace e8 := e8.symm
  subst e8
  have hP : va_P D vwCl [(ph0, .inr (11, [.ref ph1, .ref ph4, .ref pg10, .ref ph5, .ref pg11, .ref ph6, .ref pg12, .ref pg13, .ref ph7, .ref ph8, .ref pg14])), (ph4, .inr (4, [.ref ph1, .ref pg21, .ref pg22, .ref pg23, .ref pg24, .ref pg25, .ref pg26, .ref pg27, .ref pg28, .int 0])), (ph5, .inr (3, [.ref pg29, .ref pg30, .ref pg31, .ref pg32, .ref pg33, .ref pg34, .int 0, .int (-1), .int 1, .int 0])), (ph6, .inr (6, [.ref pg35, .ref pg36, .int 0, .int (-1), .int 0])), (ph7, .inr (2, [.ref pg11, .ref pg14, .int 0, .int 0, .ref pg37, .ref pg38, .ref pg39, .ref pg40, .ref pg41, .ref pg42, .ref pg43, .ref pg44, .ref pg45, .ref pg46])), (ph8, .inr (0, [.ref ph1, .ref ph4, .ref pg47, .ref ph9, .ref pg48, .ref pg49, .ref pg50, .ref pg51, .int 0])), (ph9, .inl (K 1, 12, .inl pf52)), (ph1, .inr (9, [.ref ph2, .ref ph3, .ref pg15, .ref pg16, .ref pg17, .ref pg18, .int px53, .int px54, .int 0])), (ph2, .inl (K 0, 256, .inl u4)), (ph3, .inl (K 0, 256, .inl u5))] H := hP
  have hD : va_D A [(ph0, .inr (11, [.ref ph1, .ref ph4, .ref pg10, .ref ph5, .ref pg11, .ref ph6, .ref pg12, .ref pg13, .ref ph7, .ref ph8, .ref pg14])), (ph4, .inr (4, [.ref ph1, .ref pg21, .ref pg22, .ref pg23, .ref pg24, .ref pg25, .ref pg26, .ref pg27, .ref pg28, .int 0])), (ph5, .inr (3, [.ref pg29, .ref pg30, .ref pg31, .ref pg32, .ref pg33, .ref pg34, .int 0, .int (-1), .int 1, .int 0])), (ph6, .inr (6, [.ref pg35, .ref pg36, .int 0, .int (-1), .int 0])), (ph7, .inr (2, [.ref pg11, .ref pg14, .int 0, .int 0, .ref pg37, .ref pg38, .ref pg39, .ref pg40, .ref pg41, .ref pg42, .ref pg43, .ref pg44, .ref pg45, .ref pg46])), (ph8, .inr (0, [.ref ph1, .ref ph4, .ref pg47, .ref ph9, .ref pg48, .ref pg49, .ref pg50, .ref pg51, .int 0])), (ph9, .inl (K 1, 12, .inl pf52)), (ph1, .inr (9, [.ref ph2, .ref ph3, .ref pg15, .ref pg16, .ref pg17, .ref pg18, .int px53, .int px54, .int 0])), (ph2, .inl (K 0, 256, .inl u4)), (ph3, .inl (K 0, 256, .inl u5))] := hD
  refine lv_pc (q := 9) rfl ?_
  refine lv_if_ne (tgt := 14) hx hb dX11_land_9 (by decide) (fun _ => ?_) (fun h9 => absurd h9 (by decide))
  refine lv_aload_n hx hb dX11_land_14 rfl (lv_at hl 0 rfl) ?_
  refine uGet (ci := 11) (C := RX11) (T := TX11) (N := 11) (v := .ref ph4) B inlX11 hP 0 rfl rfl 1 rfl mfl_X11_21 rfl rfl dX11_land_15 ?_
  refine lv_iconst (v := 0) hx hb dX11_land_18 (by decide) ?_
  refine uPut (ci := 4) (C := RX4) (T := TX4) (N := 10) (ws' := [(ph0, .inr (11, [.ref ph1, .ref ph4, .ref pg10, .ref ph5, .ref pg11, .ref ph6, .ref pg12, .ref pg13, .ref ph7, .ref ph8, .ref pg14])), (ph4, .inr (4, [.ref ph1, .ref pg21, .ref pg22, .ref pg23, .ref pg24, .ref pg25, .ref pg26, .ref pg27, .ref pg28, .int 0])), (ph5, .inr (3, [.ref pg29, .ref pg30, .ref pg31, .ref pg32, .ref pg33, .ref pg34, .int 0, .int (-1), .int 1, .int 0])), (ph6, .inr (6, [.ref pg35, .ref pg36, .int 0, .int (-1), .int 0])), (ph7, .inr (2, [.ref pg11, .ref pg14, .int 0, .int 0, .ref pg37, .ref pg38, .ref pg39, .ref pg40, .ref pg41, .ref pg42, .ref pg43, .ref pg44, .ref pg45, .ref pg46])), (ph8, .inr (0, [.ref ph1, .ref ph4, .ref pg47, .ref ph9, .ref pg48, .ref pg49, .ref pg50, .ref pg51, .int 0])), (ph9, .inl (K 1, 12, .inl pf52)), (ph1, .inr (9, [.ref ph2, .ref ph3, .ref pg15, .ref pg16, .ref pg17, .ref pg18, .int px53, .int px54, .int 0])), (ph2, .inl (K 0, 256, .inl u4)), (ph3, .inl (K 0, 256, .inl u5))]) B inlX4 tyX4_ok nmX4 hP hD hS 1 rfl rfl 9 rfl mfl_X11_100 rfl rfl rfl rfl rfl rfl dX11_land_19 (fun H locs hP hD hS => ?_)
  refine lv_aload_n hx hb dX11_land_22 rfl (lv_at hl 0 rfl) ?_
  refine lv_pc (q := 23) rfl ?_
  refine uGet (ci := 11) (C := RX11) (T := TX11) (N := 11) (v := .ref ph5) B inlX11 hP 0 rfl rfl 3 rfl mfl_X11_37 rfl rfl dX11_land_23 ?_
  refine uVv (As := []) (rest := []) (wr := [(ph0, .inr (11, [.ref ph1, .ref ph4, .ref pg10, .ref ph5, .ref pg11, .ref ph6, .ref pg12, .ref pg13, .ref ph7, .ref ph8, .ref pg14])), (ph4, .inr (4, [.ref ph1, .ref pg21, .ref pg22, .ref pg23, .ref pg24, .ref pg25, .ref pg26, .ref pg27, .ref pg28, .int 0])), (ph6, .inr (6, [.ref pg35, .ref pg36, .int 0, .int (-1), .int 0])), (ph7, .inr (2, [.ref pg11, .ref pg14, .int 0, .int 0, .ref pg37, .ref pg38, .ref pg39, .ref pg40, .ref pg41, .ref pg42, .ref pg43, .ref pg44, .ref pg45, .ref pg46])), (ph8, .inr (0, [.ref ph1, .ref ph4, .ref pg47, .ref ph9, .ref pg48, .ref pg49, .ref pg50, .ref pg51, .int 0])), (ph9, .inl (K 1, 12, .inl pf52)), (ph1, .inr (9, [.ref ph2, .ref ph3, .ref pg15, .ref pg16, .ref pg17, .ref pg18, .int px53, .int px54, .int 0])), (ph2, .inl (K 0, 256, .inl u4)), (ph3, .inl (K 0, 256, .inl u5))]) [(ph5, .inr (3, [.ref pg29, .ref pg30, .ref pg31, .ref pg32, .ref pg33, .ref pg34, .int 0, .int (-1), .int 1, .int 0]))] B hl.1 hP hD hS [2] [0, 1, 3, 4, 5, 6, 7, 8, 9] rfl rfl rfl (kX3_clear_27 l D K _ ph5 pg29 pg30 pg31 pg32 pg33 pg34) wd_X3_clear mml_X11_104 rfl rfl rfl rfl ⟨Nat.le_of_ble_eq_true rfl, Nat.le_of_ble_eq_true rfl⟩ (Nat.le_of_ble_eq_true rfl) ⟨Nat.le_of_ble_eq_true rfl, Nat.le_of_ble_eq_true rfl⟩ dX11_land_26 (fun u H locs hw hP hD hS => ?_)
  try dsimp only at hw
  have hP : va_P D vwCl [(ph0, .inr (11, [.ref ph1, .ref ph4, .ref pg10, .ref ph5, .ref pg11, .ref ph6, .ref pg12, .ref pg13, .ref ph7, .ref ph8, .ref pg14])), (ph4, .inr (4, [.ref ph1, .ref pg21, .ref pg22, .ref pg23, .ref pg24, .ref pg25, .ref pg26, .ref pg27, .ref pg28, .int 0])), (ph6, .inr (6, [.ref pg35, .ref pg36, .int 0, .int (-1), .int 0])), (ph7, .inr (2, [.ref pg11, .ref pg14, .int 0, .int 0, .ref pg37, .ref pg38, .ref pg39, .ref pg40, .ref pg41, .ref pg42, .ref pg43, .ref pg44, .ref pg45, .ref pg46])), (ph8, .inr (0, [.ref ph1, .ref ph4, .ref pg47, .ref ph9, .ref pg48, .ref pg49, .ref pg50, .ref pg51, .int 0])), (ph9, .inl (K 1, 12, .inl pf52)), (ph1, .inr (9, [.ref ph2, .ref ph3, .ref pg15, .ref pg16, .ref pg17, .ref pg18, .int px53, .int px54, .int 0])), (ph2, .inl (K 0, 256, .inl u4)), (ph3, .inl (K 0, 256, .inl u5)), (ph5, .inr (3, [.ref pg29, .ref pg30, .ref pg31, .ref pg32, .ref pg33, .ref pg34, .int 0, .int (-1), .int 1, .int 0]))] H := hP
  have hD : va_D A [(ph0, .inr (11, [.ref ph1, .ref ph4, .ref pg10, .ref ph5, .ref pg11, .ref ph6, .ref pg12, .ref pg13, .ref ph7, .ref ph8, .ref pg14])), (ph4, .inr (4, [.ref ph1, .ref pg21, .ref pg22, .ref pg23, .ref pg24, .ref pg25, .ref pg26, .ref pg27, .ref pg28, .int 0])), (ph6, .inr (6, [.ref pg35, .ref pg36, .int 0, .int (-1), .int 0])), (ph7, .inr (2, [.ref pg11, .ref pg14, .int 0, .int 0, .ref pg37, .ref pg38, .ref pg39, .ref pg40, .ref pg41, .ref pg42, .ref pg43, .ref pg44, .ref pg45, .ref pg46])), (ph8, .inr (0, [.ref ph1, .ref ph4, .ref pg47, .ref ph9, .ref pg48, .ref pg49, .ref pg50, .ref pg51, .int 0])), (ph9, .inl (K 1, 12, .inl pf52)), (ph1, .inr (9, [.ref ph2, .ref ph3, .ref pg15, .ref pg16, .ref pg17, .ref pg18, .int px53, .int px54, .int 0])), (ph2, .inl (K 0, 256, .inl u4)), (ph3, .inl (K 0, 256, .inl u5)), (ph5, .inr (3, [.ref pg29, .ref pg30, .ref pg31, .ref pg32, .ref pg33, .ref pg34, .int 0, .int (-1), .int 1, .int 0]))] := hD
  refine lv_aload_n hx hb dX11_land_29 rfl (lv_at hl 0 rfl) ?_
  refine uGet (ci := 11) (C := RX11) (T := TX11) (N := 11) (v := .ref ph6) B inlX11 hP 0 rfl rfl 5 rfl mfl_X11_53 rfl rfl dX11_land_30 ?_
  refine uVv (As := []) (rest := []) (wr := [(ph0, .inr (11, [.ref ph1, .ref ph4, .ref pg10, .ref ph5, .ref pg11, .ref ph6, .ref pg12, .ref pg13, .ref ph7, .ref ph8, .ref pg14])), (ph4, .inr (4, [.ref ph1, .ref pg21, .ref pg22, .ref pg23, .ref pg24, .ref pg25, .ref pg26, .ref pg27, .ref pg28, .int 0])), (ph7, .inr (2, [.ref pg11, .ref pg14, .int 0, .int 0, .ref pg37, .ref pg38, .ref pg39, .ref pg40, .ref pg41, .ref pg42, .ref pg43, .ref pg44, .ref pg45, .ref pg46])), (ph8, .inr (0, [.ref ph1, .ref ph4, .ref pg47, .ref ph9, .ref pg48, .ref pg49, .ref pg50, .ref pg51, .int 0])), (ph9, .inl (K 1, 12, .inl pf52)), (ph1, .inr (9, [.ref ph2, .ref ph3, .ref pg15, .ref pg16, .ref pg17, .ref pg18, .int px53, .int px54, .int 0])), (ph2, .inl (K 0, 256, .inl u4)), (ph3, .inl (K 0, 256, .inl u5)), (ph5, .inr (3, [.ref pg29, .ref pg30, .ref pg31, .ref pg32, .ref pg33, .ref pg34, .int 0, .int (-1), .int 1, .int 0]))]) [(ph6, .inr (6, [.ref pg35, .ref pg36, .int 0, .int (-1), .int 0]))] B hl.1 hP hD hS [2] [0, 1, 3, 4, 5, 6, 7, 8, 9] rfl rfl rfl (kX6_clear_28 l D K _ ph6 pg35 pg36) wd_X6_clear mml_X11_107 rfl rfl rfl rfl ⟨Nat.le_of_ble_eq_true rfl, Nat.le_of_ble_eq_true rfl⟩ (Nat.le_of_ble_eq_true rfl) ⟨Nat.le_of_ble_eq_true rfl, Nat.le_of_ble_eq_true rfl⟩ dX11_land_33 (fun u H locs hw hP hD hS => ?_)
  try dsimp only at hw
  have hP : va_P D vwCl [(ph0, .inr (11, [.ref ph1, .ref ph4, .ref pg10, .ref ph5, .ref pg11, .ref ph6, .ref pg12, .ref pg13, .ref ph7, .ref ph8, .ref pg14])), (ph4, .inr (4, [.ref ph1, .ref pg21, .ref pg22, .ref pg23, .ref pg24, .ref pg25, .ref pg26, .ref pg27, .ref pg28, .int 0])), (ph7, .inr (2, [.ref pg11, .ref pg14, .int 0, .int 0, .ref pg37, .ref pg38, .ref pg39, .ref pg40, .ref pg41, .ref pg42, .ref pg43, .ref pg44, .ref pg45, .ref pg46])), (ph8, .inr (0, [.ref ph1, .ref ph4, .ref pg47, .ref ph9, .ref pg48, .ref pg49, .ref pg50, .ref pg51, .int 0])), (ph9, .inl (K 1, 12, .inl pf52)), (ph1, .inr (9, [.ref ph2, .ref ph3, .ref pg15, .ref pg16, .ref pg17, .ref pg18, .int px53, .int px54, .int 0])), (ph2, .inl (K 0, 256, .inl u4)), (ph3, .inl (K 0, 256, .inl u5)), (ph5, .inr (3, [.ref pg29, .ref pg30, .ref pg31, .ref pg32, .ref pg33, .ref pg34, .int 0, .int (-1), .int 1, .int 0])), (ph6, .inr (6, [.ref pg35, .ref pg36, .int 0, .int (-1), .int 0]))] H := hP
  have hD : va_D A [(ph0, .inr (11, [.ref ph1, .ref ph4, .ref pg10, .ref ph5, .ref pg11, .ref ph6, .ref pg12, .ref pg13, .ref ph7, .ref ph8, .ref pg14])), (ph4, .inr (4, [.ref ph1, .ref pg21, .ref pg22, .ref pg23, .ref pg24, .ref pg25, .ref pg26, .ref pg27, .ref pg28, .int 0])), (ph7, .inr (2, [.ref pg11, .ref pg14, .int 0, .int 0, .ref pg37, .ref pg38, .ref pg39, .ref pg40, .ref pg41, .ref pg42, .ref pg43, .ref pg44, .ref pg45, .ref pg46])), (ph8, .inr (0, [.ref ph1, .ref ph4, .ref pg47, .ref ph9, .ref pg48, .ref pg49, .ref pg50, .ref pg51, .int 0])), (ph9, .inl (K 1, 12, .inl pf52)), (ph1, .inr (9, [.ref ph2, .ref ph3, .ref pg15, .ref pg16, .ref pg17, .ref pg18, .int px53, .int px54, .int 0])), (ph2, .inl (K 0, 256, .inl u4)), (ph3, .inl (K 0, 256, .inl u5)), (ph5, .inr (3, [.ref pg29, .ref pg30, .ref pg31, .ref pg32, .ref pg33, .ref pg34, .int 0, .int (-1), .int 1, .int 0])), (ph6, .inr (6, [.ref pg35, .ref pg36, .int 0, .int (-1), .int 0]))] := hD
  refine lv_aload_n hx hb dX11_land_36 rfl (lv_at hl 0 rfl) ?_
  refine lv_pc (q := 37) rfl ?_
  refine uGet (ci := 11) (C := RX11) (T := TX11) (N := 11) (v := .ref ph7) B inlX11 hP 0 rfl rfl 8 rfl mfl_X11_85 rfl rfl dX11_land_37 ?_
  refine lv_iconst (v := 0) hx hb dX11_land_40 (by decide) ?_
  refine uPut (ci := 2) (C := RX2) (T := TX2) (N := 14) (ws' := [(ph0, .inr (11, [.ref ph1, .ref ph4, .ref pg10, .ref ph5, .ref pg11, .ref ph6, .ref pg12, .ref pg13, .ref ph7, .ref ph8, .ref pg14])), (ph4, .inr (4, [.ref ph1, .ref pg21, .ref pg22, .ref pg23, .ref pg24, .ref pg25, .ref pg26, .ref pg27, .ref pg28, .int 0])), (ph7, .inr (2, [.ref pg11, .ref pg14, .int 0, .int 0, .ref pg37, .ref pg38, .ref pg39, .ref pg40, .ref pg41, .ref pg42, .ref pg43, .ref pg44, .ref pg45, .ref pg46])), (ph8, .inr (0, [.ref ph1, .ref ph4, .ref pg47, .ref ph9, .ref pg48, .ref pg49, .ref pg50, .ref pg51, .int 0])), (ph9, .inl (K 1, 12, .inl pf52)), (ph1, .inr (9, [.ref ph2, .ref ph3, .ref pg15, .ref pg16, .ref pg17, .ref pg18, .int px53, .int px54, .int 0])), (ph2, .inl (K 0, 256, .inl u4)), (ph3, .inl (K 0, 256, .inl u5)), (ph5, .inr (3, [.ref pg29, .ref pg30, .ref pg31, .ref pg32, .ref pg33, .ref pg34, .int 0, .int (-1), .int 1, .int 0])), (ph6, .inr (6, [.ref pg35, .ref pg36, .int 0, .int (-1), .int 0]))]) B inlX2 tyX2_ok nmX2 hP hD hS 2 rfl rfl 2 rfl mfl_X11_108 rfl rfl rfl rfl rfl rfl dX11_land_41 (fun H locs hP hD hS => ?_)
  refine lv_aload_n hx hb dX11_land_44 rfl (lv_at hl 0 rfl) ?_
  refine uGet (ci := 11) (C := RX11) (T := TX11) (N := 11) (v := .ref ph8) B inlX11 hP 0 rfl rfl 9 rfl mfl_X11_92 rfl rfl dX11_land_45 ?_
  refine uVv (As := []) (rest := []) (wr := [(ph0, .inr (11, [.ref ph1, .ref ph4, .ref pg10, .ref ph5, .ref pg11, .ref ph6, .ref pg12, .ref pg13, .ref ph7, .ref ph8, .ref pg14])), (ph4, .inr (4, [.ref ph1, .ref pg21, .ref pg22, .ref pg23, .ref pg24, .ref pg25, .ref pg26, .ref pg27, .ref pg28, .int 0])), (ph7, .inr (2, [.ref pg11, .ref pg14, .int 0, .int 0, .ref pg37, .ref pg38, .ref pg39, .ref pg40, .ref pg41, .ref pg42, .ref pg43, .ref pg44, .ref pg45, .ref pg46])), (ph1, .inr (9, [.ref ph2, .ref ph3, .ref pg15, .ref pg16, .ref pg17, .ref pg18, .int px53, .int px54, .int 0])), (ph2, .inl (K 0, 256, .inl u4)), (ph3, .inl (K 0, 256, .inl u5)), (ph5, .inr (3, [.ref pg29, .ref pg30, .ref pg31, .ref pg32, .ref pg33, .ref pg34, .int 0, .int (-1), .int 1, .int 0])), (ph6, .inr (6, [.ref pg35, .ref pg36, .int 0, .int (-1), .int 0]))]) [(ph8, .inr (0, [.ref ph1, .ref ph4, .ref pg47, .ref ph9, .ref pg48, .ref pg49, .ref pg50, .ref pg51, .int 0])), (ph9, .inl (K 1, 12, .inl pf52))] B hl.1 hP hD hS [3, 4] [0, 1, 2, 5, 6, 7, 8, 9] rfl rfl rfl (kX0_forgetWays_29 l D K _ ph8 ph9 ph1 ph4 pg47 pg48 pg49 pg50 pg51 pf52 hbpf52) wd_X0_forgetWays mml_X11_112 rfl rfl rfl rfl ⟨Nat.le_of_ble_eq_true rfl, Nat.le_of_ble_eq_true rfl⟩ (Nat.le_of_ble_eq_true rfl) ⟨Nat.le_of_ble_eq_true rfl, Nat.le_of_ble_eq_true rfl⟩ dX11_land_48 (fun u H locs hw hP hD hS => ?_)
  obtain ⟨u16, e9⟩ : ∃ y, y = u := ⟨_, rfl⟩
  subst e9
  try dsimp only at hw
  have hP : va_P D vwCl [(ph0, .inr (11, [.ref ph1, .ref ph4, .ref pg10, .ref ph5, .ref pg11, .ref ph6, .ref pg12, .ref pg13, .ref ph7, .ref ph8, .ref pg14])), (ph4, .inr (4, [.ref ph1, .ref pg21, .ref pg22, .ref pg23, .ref pg24, .ref pg25, .ref pg26, .ref pg27, .ref pg28, .int 0])), (ph7, .inr (2, [.ref pg11, .ref pg14, .int 0, .int 0, .ref pg37, .ref pg38, .ref pg39, .ref pg40, .ref pg41, .ref pg42, .ref pg43, .ref pg44, .ref pg45, .ref pg46])), (ph1, .inr (9, [.ref ph2, .ref ph3, .ref pg15, .ref pg16, .ref pg17, .ref pg18, .int px53, .int px54, .int 0])), (ph2, .inl (K 0, 256, .inl u4)), (ph3, .inl (K 0, 256, .inl u5)), (ph5, .inr (3, [.ref pg29, .ref pg30, .ref pg31, .ref pg32, .ref pg33, .ref pg34, .int 0, .int (-1), .int 1, .int 0])), (ph6, .inr (6, [.ref pg35, .ref pg36, .int 0, .int (-1), .int 0])), (ph8, .inr (0, [.ref ph1, .ref ph4, .ref pg47, .ref ph9, .ref pg48, .ref pg49, .ref pg50, .ref pg51, .int 0])), (ph9, .inl (K 1, 12, .inl u16))] H := hP
  have hD : va_D A [(ph0, .inr (11, [.ref ph1, .ref ph4, .ref pg10, .ref ph5, .ref pg11, .ref ph6, .ref pg12, .ref pg13, .ref ph7, .ref ph8, .ref pg14])), (ph4, .inr (4, [.ref ph1, .ref pg21, .ref pg22, .ref pg23, .ref pg24, .ref pg25, .ref pg26, .ref pg27, .ref pg28, .int 0])), (ph7, .inr (2, [.ref pg11, .ref pg14, .int 0, .int 0, .ref pg37, .ref pg38, .ref pg39, .ref pg40, .ref pg41, .ref pg42, .ref pg43, .ref pg44, .ref pg45, .ref pg46])), (ph1, .inr (9, [.ref ph2, .ref ph3, .ref pg15, .ref pg16, .ref pg17, .ref pg18, .int px53, .int px54, .int 0])), (ph2, .inl (K 0, 256, .inl u4)), (ph3, .inl (K 0, 256, .inl u5)), (ph5, .inr (3, [.ref pg29, .ref pg30, .ref pg31, .ref pg32, .ref pg33, .ref pg34, .int 0, .int (-1), .int 1, .int 0])), (ph6, .inr (6, [.ref pg35, .ref pg36, .int 0, .int (-1), .int 0])), (ph8, .inr (0, [.ref ph1, .ref ph4, .ref pg47, .ref ph9, .ref pg48, .ref pg49, .ref pg50, .ref pg51, .int 0])), (ph9, .inl (K 1, 12, .inl u16))] := hD
  refine lv_pc (q := 51) rfl ?_
  refine lv_iconst (v := 1) hx hb dX11_land_51 (by decide) ?_
  exact uRz () B rfl (Or.inr ⟨rfl, ⟨w9, w10, w11, w12⟩⟩) (uSub hP [] rfl) (hD.sub [] rfl rfl) hS dX11_land_52
def qkX12_land_31 (ph0 : Nat) (ph1 : Nat) (ph2 : Nat) (pg3 : Nat) (pg4 : Nat) (pg5 : Nat) (pg6 : Nat) (pg7 : Nat) (pg8 : Nat) (pg9 : Nat) (pg10 : Nat) (pg11 : Nat) (pg12 : Nat) (pg13 : Nat) (pg14 : Nat) (pg15 : Nat) (pg16 : Nat) (pg17 : Nat) (pg18 : Nat) (pg19 : Nat) (pg20 : Nat) (pg21 : Nat) (pg22 : Nat) (pg23 : Nat) (pg24 : Nat) (pg25 : Nat) (pg26 : Nat) (pg27 : Nat) (pg28 : Nat) (pg29 : Nat) (pg30 : Nat) (pg31 : Nat) (pg32 : Nat) (pg33 : Nat) (pg34 : Nat) (pg35 : Nat) (pg36 : Nat) (pg37 : Nat) (pg38 : Nat) (pg39 : Nat) (pg40 : Nat) (pg41 : Nat) (pg42 : Nat) (pg43 : Nat) (pg44 : Nat) (pg45 : Nat) (pg46 : Nat) (pg47 : Nat) (pg48 : Nat) (pg49 : Nat) (pg50 : Nat) (pg51 : Nat) (pg52 : Nat) (pg53 : Nat) (pg54 : Nat) (pg55 : Nat) (pg56 : Nat) (pg57 : Nat) (pg58 : Nat) (pg59 : Nat) (pg60 : Nat) (pg61 : Nat) (pg62 : Nat) (pg63 : Nat) (pg64 : Nat) (pg65 : Nat) (pg66 : Nat) (pf67 : Nat → Int32) (pf68 : Nat → Int32) (px69 : Int32) (px70 : Int32) : Int32 → (Unit) → Prop := (fun (r : Int32) (u : Unit) => (r = 0 ∧ ((px69 < 4) ∨ (¬ px69 < 4 ∧ 16 < px69) ∨ (¬ px69 < 4 ∧ ¬ 16 < px69 ∧ px70 < 4) ∨ (¬ px69 < 4 ∧ ¬ 16 < px69 ∧ ¬ px70 < 4 ∧ ¬ px70 ≤ 16))) ∨ (r = 1 ∧ (¬ px69 < 4 ∧ ¬ 16 < px69 ∧ ¬ px70 < 4 ∧ px70 ≤ 16)))
def vkX12_land_31 (K : Nat → ClassId) (ph0 : Nat) (ph1 : Nat) (ph2 : Nat) (pg3 : Nat) (pg4 : Nat) (pg5 : Nat) (pg6 : Nat) (pg7 : Nat) (pg8 : Nat) (pg9 : Nat) (pg10 : Nat) (pg11 : Nat) (pg12 : Nat) (pg13 : Nat) (pg14 : Nat) (pg15 : Nat) (pg16 : Nat) (pg17 : Nat) (pg18 : Nat) (pg19 : Nat) (pg20 : Nat) (pg21 : Nat) (pg22 : Nat) (pg23 : Nat) (pg24 : Nat) (pg25 : Nat) (pg26 : Nat) (pg27 : Nat) (pg28 : Nat) (pg29 : Nat) (pg30 : Nat) (pg31 : Nat) (pg32 : Nat) (pg33 : Nat) (pg34 : Nat) (pg35 : Nat) (pg36 : Nat) (pg37 : Nat) (pg38 : Nat) (pg39 : Nat) (pg40 : Nat) (pg41 : Nat) (pg42 : Nat) (pg43 : Nat) (pg44 : Nat) (pg45 : Nat) (pg46 : Nat) (pg47 : Nat) (pg48 : Nat) (pg49 : Nat) (pg50 : Nat) (pg51 : Nat) (pg52 : Nat) (pg53 : Nat) (pg54 : Nat) (pg55 : Nat) (pg56 : Nat) (pg57 : Nat) (pg58 : Nat) (pg59 : Nat) (pg60 : Nat) (pg61 : Nat) (pg62 : Nat) (pg63 : Nat) (pg64 : Nat) (pg65 : Nat) (pg66 : Nat) (pf67 : Nat → Int32) (pf68 : Nat → Int32) (px69 : Int32) (px70 : Int32) : (Unit) → va_W := (fun (u : Unit) => [])
set_option maxHeartbeats 4000000 in
set_option maxRecDepth 100000 in
theorem kX12_land_31 (l : Launch) (D : va_G) (K : Nat → ClassId) (sz : Nat) (ph0 : Nat) (ph1 : Nat) (ph2 : Nat) (pg3 : Nat) (pg4 : Nat) (pg5 : Nat) (pg6 : Nat) (pg7 : Nat) (pg8 : Nat) (pg9 : Nat) (pg10 : Nat) (pg11 : Nat) (pg12 : Nat) (pg13 : Nat) (pg14 : Nat) (pg15 : Nat) (pg16 : Nat) (pg17 : Nat) (pg18 : Nat) (pg19 : Nat) (pg20 : Nat) (pg21 : Nat) (pg22 : Nat) (pg23 : Nat) (pg24 : Nat) (pg25 : Nat) (pg26 : Nat) (pg27 : Nat) (pg28 : Nat) (pg29 : Nat) (pg30 : Nat) (pg31 : Nat) (pg32 : Nat) (pg33 : Nat) (pg34 : Nat) (pg35 : Nat) (pg36 : Nat) (pg37 : Nat) (pg38 : Nat) (pg39 : Nat) (pg40 : Nat) (pg41 : Nat) (pg42 : Nat) (pg43 : Nat) (pg44 : Nat) (pg45 : Nat) (pg46 : Nat) (pg47 : Nat) (pg48 : Nat) (pg49 : Nat) (pg50 : Nat) (pg51 : Nat) (pg52 : Nat) (pg53 : Nat) (pg54 : Nat) (pg55 : Nat) (pg56 : Nat) (pg57 : Nat) (pg58 : Nat) (pg59 : Nat) (pg60 : Nat) (pg61 : Nat) (pg62 : Nat) (pg63 : Nat) (pg64 : Nat) (pg65 : Nat) (pg66 : Nat) (pf67 : Nat → Int32) (pf68 : Nat → Int32) (px69 : Int32) (px70 : Int32) : uMi l yX12_land cX12_land 4 (some .boolean) { frames := 0, cells := 0, slots := 0, locals := 0 } [.ref ph0, .int px69, .int px70] D K [(ph0, .inr (12, [.int 0, .int 4, .int 4, .ref ph1, .ref ph2, .ref pg3, .ref pg4, .int 0, .ref pg5, .ref pg6, .int 0, .ref pg7, .ref pg8, .ref pg9, .ref pg10, .ref pg11, .ref pg12, .ref pg13, .int 0, .ref pg14, .ref pg15, .ref pg16, .ref pg17, .ref pg18, .ref pg19, .int 0, .ref pg20, .int 0, .int 0, .int 0, .ref pg21, .int 0, .int 0, .ref pg22, .int 0, .ref pg23, .ref pg24, .ref pg25, .ref pg26, .ref pg27, .ref pg28, .ref pg29, .ref pg30, .ref pg31, .ref pg32, .ref pg33, .ref pg34, .ref pg35, .ref pg36, .ref pg37, .ref pg38, .ref pg39, .ref pg40, .ref pg41, .ref pg42, .ref pg43, .ref pg44, .ref pg45, .int 0, .int 0, .int 0, .int 0, .int 0, .long 0, .int 0, .int 0, .int 0, .int 0, .int 0, .int (-1), .int 0, .ref pg46, .ref pg47, .ref pg48, .ref pg49, .ref pg50, .int 0, .int 0, .ref pg51, .ref pg52, .ref pg53, .ref pg54, .ref pg55, .ref pg56, .ref pg57, .ref pg58, .int 0, .int 0, .int 0, .int 0, .ref pg59, .ref pg60, .int 0, .ref pg61, .ref pg62, .ref pg63, .ref pg64, .ref pg65, .ref pg66])), (ph1, .inl (K 0, 256, .inl pf67)), (ph2, .inl (K 0, 256, .inl pf68))] sz (qkX12_land_31 ph0 ph1 ph2 pg3 pg4 pg5 pg6 pg7 pg8 pg9 pg10 pg11 pg12 pg13 pg14 pg15 pg16 pg17 pg18 pg19 pg20 pg21 pg22 pg23 pg24 pg25 pg26 pg27 pg28 pg29 pg30 pg31 pg32 pg33 pg34 pg35 pg36 pg37 pg38 pg39 pg40 pg41 pg42 pg43 pg44 pg45 pg46 pg47 pg48 pg49 pg50 pg51 pg52 pg53 pg54 pg55 pg56 pg57 pg58 pg59 pg60 pg61 pg62 pg63 pg64 pg65 pg66 pf67 pf68 px69 px70) (vkX12_land_31 K ph0 ph1 ph2 pg3 pg4 pg5 pg6 pg7 pg8 pg9 pg10 pg11 pg12 pg13 pg14 pg15 pg16 pg17 pg18 pg19 pg20 pg21 pg22 pg23 pg24 pg25 pg26 pg27 pg28 pg29 pg30 pg31 pg32 pg33 pg34 pg35 pg36 pg37 pg38 pg39 pg40 pg41 pg42 pg43 pg44 pg45 pg46 pg47 pg48 pg49 pg50 pg51 pg52 pg53 pg54 pg55 pg56 pg57 pg58 pg59 pg60 pg61 pg62 pg63 pg64 pg65 pg66 pf67 pf68 px69 px70) := by
  refine uMet (Qc := uQi D (qkX12_land_31 ph0 ph1 ph2 pg3 pg4 pg5 pg6 pg7 pg8 pg9 pg10 pg11 pg12 pg13 pg14 pg15 pg16 pg17 pg18 pg19 pg20 pg21 pg22 pg23 pg24 pg25 pg26 pg27 pg28 pg29 pg30 pg31 pg32 pg33 pg34 pg35 pg36 pg37 pg38 pg39 pg40 pg41 pg42 pg43 pg44 pg45 pg46 pg47 pg48 pg49 pg50 pg51 pg52 pg53 pg54 pg55 pg56 pg57 pg58 pg59 pg60 pg61 pg62 pg63 pg64 pg65 pg66 pf67 pf68 px69 px70) (vkX12_land_31 K ph0 ph1 ph2 pg3 pg4 pg5 pg6 pg7 pg8 pg9 pg10 pg11 pg12 pg13 pg14 pg15 pg16 pg17 pg18 pg19 pg20 pg21 pg22 pg23 pg24 pg25 pg26 pg27 pg28 pg29 pg30 pg31 pg32 pg33 pg34 pg35 pg36 pg37 pg38 pg39 pg40 pg41 pg42 pg43 pg44 pg45 pg46 pg47 pg48 pg49 pg50 pg51 pg52 pg53 pg54 pg55 pg56 pg57 pg58 pg59 pg60 pg61 pg62 pg63 pg64 pg65 pg66 pf67 pf68 px69 px70)) (ret := (some .boolean)) (by decide) (Nat.le_of_ble_eq_true rfl) ?_
  intro p e s m below meth c A ls hAe hsz B hP hD hS hl
  have hx := B.1
  have hb := B.2.1
  have hl : lv_has ls 4 [(0, .ref ph0), (1, .int px69), (2, .int px70)] := hl
  refine lv_aload_n hx hb dX12_land_0 rfl (lv_at hl 0 rfl) ?_
  refine lv_iconst (v := 0) hx hb dX12_land_1 (by decide) ?_
  refine uPut (ci := 12) (C := RX12) (T := TX12) (N := 99) (ws' := [(ph0, .inr (12, [.int 0, .int 4, .int 4, .ref ph1, .ref ph2, .ref pg3, .ref pg4, .int 0, .ref pg5, .ref pg6, .int 0, .ref pg7, .ref pg8, .ref pg9, .ref pg10, .ref pg11, .ref pg12, .ref pg13, .int 0, .ref pg14, .ref pg15, .ref pg16, .ref pg17, .ref pg18, .ref pg19, .int 0, .ref pg20, .int 0, .int 0, .int 0, .ref pg21, .int 0, .int 0, .ref pg22, .int 0, .ref pg23, .ref pg24, .ref pg25, .ref pg26, .ref pg27, .ref pg28, .ref pg29, .ref pg30, .ref pg31, .ref pg32, .ref pg33, .ref pg34, .ref pg35, .ref pg36, .ref pg37, .ref pg38, .ref pg39, .ref pg40, .ref pg41, .ref pg42, .ref pg43, .ref pg44, .ref pg45, .int 0, .int 0, .int 0, .int 0, .int 0, .long 0, .int 0, .int 0, .int 0, .int 0, .int 0, .int (-1), .int 0, .ref pg46, .ref pg47, .ref pg48, .ref pg49, .ref pg50, .int 0, .int 0, .ref pg51, .ref pg52, .ref pg53, .ref pg54, .ref pg55, .ref pg56, .ref pg57, .ref pg58, .int 0, .int 0, .int 0, .int 0, .ref pg59, .ref pg60, .int 0, .ref pg61, .ref pg62, .ref pg63, .ref pg64, .ref pg65, .ref pg66])), (ph1, .inl (K 0, 256, .inl pf67)), (ph2, .inl (K 0, 256, .inl pf68))]) B inlX12 tyX12_ok nmX12 hP hD hS 0 rfl rfl 0 rfl mfl_X12_224 rfl rfl rfl rfl rfl rfl dX12_land_2 (fun H locs hP hD hS => ?_)
  refine lv_iload_n hx hb dX12_land_5 rfl (lv_at hl 1 rfl) ?_
  refine lv_iconst (v := 4) hx hb dX12_land_6 (by decide) ?_
  refine lv_pc (q := 7) rfl ?_
  refine lv_icmp_lt (tgt := 27) hx hb dX12_land_7 (by decide) (fun c1 => ?_) (fun c1 => ?_)
  · refine lv_iconst (v := 0) hx hb dX12_land_27 (by decide) ?_
    exact uRz () B rfl (Or.inl ⟨rfl, Or.inl c1⟩) (uSub hP [] rfl) (hD.sub [] rfl rfl) hS dX12_land_28
  refine lv_iload_n hx hb dX12_land_10 rfl (lv_at hl 1 rfl) ?_
  refine lv_bipush (v := 16) hx hb dX12_land_11 (by decide) ?_
  refine lv_icmp_gt (tgt := 27) hx hb dX12_land_13 (by decide) (fun c2 => ?_) (fun c2 => ?_)
  · refine lv_iconst (v := 0) hx hb dX12_land_27 (by decide) ?_
    exact uRz () B rfl (Or.inl ⟨rfl, Or.inr (Or.inl ⟨c1, c2⟩)⟩) (uSub hP [] rfl) (hD.sub [] rfl rfl) hS dX12_land_28
  refine lv_iload_n hx hb dX12_land_16 rfl (lv_at hl 2 rfl) ?_
  refine lv_iconst (v := 4) hx hb dX12_land_17 (by decide) ?_
  refine lv_pc (q := 18) rfl ?_
  refine lv_icmp_lt (tgt := 27) hx hb dX12_land_18 (by decide) (fun c3 => ?_) (fun c3 => ?_)
  · refine lv_iconst (v := 0) hx hb dX12_land_27 (by decide) ?_
    exact uRz () B rfl (Or.inl ⟨rfl, Or.inr (Or.inr (Or.inl ⟨c1, c2, c3⟩))⟩) (uSub hP [] rfl) (hD.sub [] rfl rfl) hS dX12_land_28
  refine lv_iload_n hx hb dX12_land_21 rfl (lv_at hl 2 rfl) ?_
  refine lv_bipush (v := 16) hx hb dX12_land_22 (by decide) ?_
  refine lv_icmp_le (tgt := 29) hx hb dX12_land_24 (by decide) (fun c4 => ?_) (fun c4 => ?_)
  · refine lv_aload_n hx hb dX12_land_29 rfl (lv_at hl 0 rfl) ?_
    refine lv_iload_n hx hb dX12_land_30 rfl (lv_at hl 1 rfl) ?_
    refine lv_pc (q := 31) rfl ?_
    refine uPut (ci := 12) (C := RX12) (T := TX12) (N := 99) (ws' := [(ph0, .inr (12, [.int 0, .int px69, .int 4, .ref ph1, .ref ph2, .ref pg3, .ref pg4, .int 0, .ref pg5, .ref pg6, .int 0, .ref pg7, .ref pg8, .ref pg9, .ref pg10, .ref pg11, .ref pg12, .ref pg13, .int 0, .ref pg14, .ref pg15, .ref pg16, .ref pg17, .ref pg18, .ref pg19, .int 0, .ref pg20, .int 0, .int 0, .int 0, .ref pg21, .int 0, .int 0, .ref pg22, .int 0, .ref pg23, .ref pg24, .ref pg25, .ref pg26, .ref pg27, .ref pg28, .ref pg29, .ref pg30, .ref pg31, .ref pg32, .ref pg33, .ref pg34, .ref pg35, .ref pg36, .ref pg37, .ref pg38, .ref pg39, .ref pg40, .ref pg41, .ref pg42, .ref pg43, .ref pg44, .ref pg45, .int 0, .int 0, .int 0, .int 0, .int 0, .long 0, .int 0, .int 0, .int 0, .int 0, .int 0, .int (-1), .int 0, .ref pg46, .ref pg47, .ref pg48, .ref pg49, .ref pg50, .int 0, .int 0, .ref pg51, .ref pg52, .ref pg53, .ref pg54, .ref pg55, .ref pg56, .ref pg57, .ref pg58, .int 0, .int 0, .int 0, .int 0, .ref pg59, .ref pg60, .int 0, .ref pg61, .ref pg62, .ref pg63, .ref pg64, .ref pg65, .ref pg66])), (ph1, .inl (K 0, 256, .inl pf67)), (ph2, .inl (K 0, 256, .inl pf68))]) B inlX12 tyX12_ok nmX12 hP hD hS 0 rfl rfl 1 rfl mfl_X12_7 rfl rfl rfl rfl rfl rfl dX12_land_31 (fun H locs hP hD hS => ?_)
    refine lv_aload_n hx hb dX12_land_34 rfl (lv_at hl 0 rfl) ?_
    refine lv_iload_n hx hb dX12_land_35 rfl (lv_at hl 2 rfl) ?_
    refine uPut (ci := 12) (C := RX12) (T := TX12) (N := 99) (ws' := [(ph0, .inr (12, [.int 0, .int px69, .int px70, .ref ph1, .ref ph2, .ref pg3, .ref pg4, .int 0, .ref pg5, .ref pg6, .int 0, .ref pg7, .ref pg8, .ref pg9, .ref pg10, .ref pg11, .ref pg12, .ref pg13, .int 0, .ref pg14, .ref pg15, .ref pg16, .ref pg17, .ref pg18, .ref pg19, .int 0, .ref pg20, .int 0, .int 0, .int 0, .ref pg21, .int 0, .int 0, .ref pg22, .int 0, .ref pg23, .ref pg24, .ref pg25, .ref pg26, .ref pg27, .ref pg28, .ref pg29, .ref pg30, .ref pg31, .ref pg32, .ref pg33, .ref pg34, .ref pg35, .ref pg36, .ref pg37, .ref pg38, .ref pg39, .ref pg40, .ref pg41, .ref pg42, .ref pg43, .ref pg44, .ref pg45, .int 0, .int 0, .int 0, .int 0, .int 0, .long 0, .int 0, .int 0, .int 0, .int 0, .int 0, .int (-1), .int 0, .ref pg46, .ref pg47, .ref pg48, .ref pg49, .ref pg50, .int 0, .int 0, .ref pg51, .ref pg52, .ref pg53, .ref pg54, .ref pg55, .ref pg56, .ref pg57, .ref pg58, .int 0, .int 0, .int 0, .int 0, .ref pg59, .ref pg60, .int 0, .ref pg61, .ref pg62, .ref pg63, .ref pg64, .ref pg65, .ref pg66])), (ph1, .inl (K 0, 256, .inl pf67)), (ph2, .inl (K 0, 256, .inl pf68))]) B inlX12 tyX12_ok nmX12 hP hD hS 0 rfl rfl 2 rfl mfl_X12_13 rfl rfl rfl rfl rfl rfl dX12_land_36 (fun H locs hP hD hS => ?_)
    refine lv_iconst (v := 0) hx hb dX12_land_39 (by decide) ?_
    refine lv_istore_n (lv' := [(3, .int 0), (0, .ref ph0), (1, .int px69), (2, .int px70)]) hx hb dX12_land_40 rfl hl (by decide) rfl (fun ls hl => ?_)
    have L9 : ∀ (n9 : Nat) (j5 : Nat) (f6 : Nat → Int32) (f7 : Nat → Int32), (j5 ≤ 256) → 256 - j5 < n9 → ∀ (H : Heap) (locs : List Loc) (ls : Array Slot), va_P D vwCl [(ph0, .inr (12, [.int 0, .int px69, .int px70, .ref ph1, .ref ph2, .ref pg3, .ref pg4, .int 0, .ref pg5, .ref pg6, .int 0, .ref pg7, .ref pg8, .ref pg9, .ref pg10, .ref pg11, .ref pg12, .ref pg13, .int 0, .ref pg14, .ref pg15, .ref pg16, .ref pg17, .ref pg18, .ref pg19, .int 0, .ref pg20, .int 0, .int 0, .int 0, .ref pg21, .int 0, .int 0, .ref pg22, .int 0, .ref pg23, .ref pg24, .ref pg25, .ref pg26, .ref pg27, .ref pg28, .ref pg29, .ref pg30, .ref pg31, .ref pg32, .ref pg33, .ref pg34, .ref pg35, .ref pg36, .ref pg37, .ref pg38, .ref pg39, .ref pg40, .ref pg41, .ref pg42, .ref pg43, .ref pg44, .ref pg45, .int 0, .int 0, .int 0, .int 0, .int 0, .long 0, .int 0, .int 0, .int 0, .int 0, .int 0, .int (-1), .int 0, .ref pg46, .ref pg47, .ref pg48, .ref pg49, .ref pg50, .int 0, .int 0, .ref pg51, .ref pg52, .ref pg53, .ref pg54, .ref pg55, .ref pg56, .ref pg57, .ref pg58, .int 0, .int 0, .int 0, .int 0, .ref pg59, .ref pg60, .int 0, .ref pg61, .ref pg62, .ref pg63, .ref pg64, .ref pg65, .ref pg66])), (ph1, .inl (K 0, 256, .inl f6)), (ph2, .inl (K 0, 256, .inl f7))] H → va_D A [(ph0, .inr (12, [.int 0, .int px69, .int px70, .ref ph1, .ref ph2, .ref pg3, .ref pg4, .int 0, .ref pg5, .ref pg6, .int 0, .ref pg7, .ref pg8, .ref pg9, .ref pg10, .ref pg11, .ref pg12, .ref pg13, .int 0, .ref pg14, .ref pg15, .ref pg16, .ref pg17, .ref pg18, .ref pg19, .int 0, .ref pg20, .int 0, .int 0, .int 0, .ref pg21, .int 0, .int 0, .ref pg22, .int 0, .ref pg23, .ref pg24, .ref pg25, .ref pg26, .ref pg27, .ref pg28, .ref pg29, .ref pg30, .ref pg31, .ref pg32, .ref pg33, .ref pg34, .ref pg35, .ref pg36, .ref pg37, .ref pg38, .ref pg39, .ref pg40, .ref pg41, .ref pg42, .ref pg43, .ref pg44, .ref pg45, .int 0, .int 0, .int 0, .int 0, .int 0, .long 0, .int 0, .int 0, .int 0, .int 0, .int 0, .int (-1), .int 0, .ref pg46, .ref pg47, .ref pg48, .ref pg49, .ref pg50, .int 0, .int 0, .ref pg51, .ref pg52, .ref pg53, .ref pg54, .ref pg55, .ref pg56, .ref pg57, .ref pg58, .int 0, .int 0, .int 0, .int 0, .ref pg59, .ref pg60, .int 0, .ref pg61, .ref pg62, .ref pg63, .ref pg64, .ref pg65, .ref pg66])), (ph1, .inl (K 0, 256, .inl f6)), (ph2, .inl (K 0, 256, .inl f7))] → va_S A s.heap H locs → lv_has ls 4 [(3, .int (nI j5)), (0, .ref ph0), (1, .int px69), (2, .int px70)] → W p l e { frames := 0, cells := 0, slots := 0, locals := 0 } s m ([.ref ph0, .int px69, .int px70] : List Value).toArray below meth c H locs 0 0 (MQ below (uQi D (qkX12_land_31 ph0 ph1 ph2 pg3 pg4 pg5 pg6 pg7 pg8 pg9 pg10 pg11 pg12 pg13 pg14 pg15 pg16 pg17 pg18 pg19 pg20 pg21 pg22 pg23 pg24 pg25 pg26 pg27 pg28 pg29 pg30 pg31 pg32 pg33 pg34 pg35 pg36 pg37 pg38 pg39 pg40 pg41 pg42 pg43 pg44 pg45 pg46 pg47 pg48 pg49 pg50 pg51 pg52 pg53 pg54 pg55 pg56 pg57 pg58 pg59 pg60 pg61 pg62 pg63 pg64 pg65 pg66 pf67 pf68 px69 px70) (vkX12_land_31 K ph0 ph1 ph2 pg3 pg4 pg5 pg6 pg7 pg8 pg9 pg10 pg11 pg12 pg13 pg14 pg15 pg16 pg17 pg18 pg19 pg20 pg21 pg22 pg23 pg24 pg25 pg26 pg27 pg28 pg29 pg30 pg31 pg32 pg33 pg34 pg35 pg36 pg37 pg38 pg39 pg40 pg41 pg42 pg43 pg44 pg45 pg46 pg47 pg48 pg49 pg50 pg51 pg52 pg53 pg54 pg55 pg56 pg57 pg58 pg59 pg60 pg61 pg62 pg63 pg64 pg65 pg66 pf67 pf68 px69 px70) A) ([.ref ph0, .int px69, .int px70] : List Value).toArray s 0 0 A) (F0 m 41 ls []) := by
      intro n9
      induction n9 with
      | zero => intros; exact absurd ‹_ < 0› (Nat.not_lt_zero _)
      | succ n41_ ih41 =>
        intro j5 f6 f7 hj5 hm41 H locs ls hP hD hS hl
        refine lv_pc (q := 41) rfl ?_
        refine lv_iload_n hx hb dX12_land_41 rfl (lv_at hl 0 rfl) ?_
        refine lv_sipush (v := 256) hx hb dX12_land_42 (by decide) ?_
        refine lv_icmp_ge (tgt := 68) hx hb dX12_land_45 (by decide) (fun c10 => ?_) (fun c10 => ?_)
        · have k_10 : 256 ≤ j5 := (nI_leI (a := 256) (b := j5) (by omega) (by omega)).mp c10
          refine lv_aload_n hx hb dX12_land_68 rfl (lv_at hl 1 rfl) ?_
          refine lv_iconst (v := 0) hx hb dX12_land_69 (by decide) ?_
          refine uPut (ci := 12) (C := RX12) (T := TX12) (N := 99) (ws' := [(ph0, .inr (12, [.int 0, .int px69, .int px70, .ref ph1, .ref ph2, .ref pg3, .ref pg4, .int 0, .ref pg5, .ref pg6, .int 0, .ref pg7, .ref pg8, .ref pg9, .ref pg10, .ref pg11, .ref pg12, .ref pg13, .int 0, .ref pg14, .ref pg15, .ref pg16, .ref pg17, .ref pg18, .ref pg19, .int 0, .ref pg20, .int 0, .int 0, .int 0, .ref pg21, .int 0, .int 0, .ref pg22, .int 0, .ref pg23, .ref pg24, .ref pg25, .ref pg26, .ref pg27, .ref pg28, .ref pg29, .ref pg30, .ref pg31, .ref pg32, .ref pg33, .ref pg34, .ref pg35, .ref pg36, .ref pg37, .ref pg38, .ref pg39, .ref pg40, .ref pg41, .ref pg42, .ref pg43, .ref pg44, .ref pg45, .int 0, .int 0, .int 0, .int 0, .int 0, .long 0, .int 0, .int 0, .int 0, .int 0, .int 0, .int (-1), .int 0, .ref pg46, .ref pg47, .ref pg48, .ref pg49, .ref pg50, .int 0, .int 0, .ref pg51, .ref pg52, .ref pg53, .ref pg54, .ref pg55, .ref pg56, .ref pg57, .ref pg58, .int 0, .int 0, .int 0, .int 0, .ref pg59, .ref pg60, .int 0, .ref pg61, .ref pg62, .ref pg63, .ref pg64, .ref pg65, .ref pg66])), (ph1, .inl (K 0, 256, .inl f6)), (ph2, .inl (K 0, 256, .inl f7))]) B inlX12 tyX12_ok nmX12 hP hD hS 0 rfl rfl 10 rfl mfl_X12_227 rfl rfl rfl rfl rfl rfl dX12_land_70 (fun H locs hP hD hS => ?_)
          refine lv_pc (q := 73) rfl ?_
          refine lv_aload_n hx hb dX12_land_73 rfl (lv_at hl 1 rfl) ?_
          refine lv_iconst (v := 0) hx hb dX12_land_74 (by decide) ?_
          refine uPut (ci := 12) (C := RX12) (T := TX12) (N := 99) (ws' := [(ph0, .inr (12, [.int 0, .int px69, .int px70, .ref ph1, .ref ph2, .ref pg3, .ref pg4, .int 0, .ref pg5, .ref pg6, .int 0, .ref pg7, .ref pg8, .ref pg9, .ref pg10, .ref pg11, .ref pg12, .ref pg13, .int 0, .ref pg14, .ref pg15, .ref pg16, .ref pg17, .ref pg18, .ref pg19, .int 0, .ref pg20, .int 0, .int 0, .int 0, .ref pg21, .int 0, .int 0, .ref pg22, .int 0, .ref pg23, .ref pg24, .ref pg25, .ref pg26, .ref pg27, .ref pg28, .ref pg29, .ref pg30, .ref pg31, .ref pg32, .ref pg33, .ref pg34, .ref pg35, .ref pg36, .ref pg37, .ref pg38, .ref pg39, .ref pg40, .ref pg41, .ref pg42, .ref pg43, .ref pg44, .ref pg45, .int 0, .int 0, .int 0, .int 0, .int 0, .long 0, .int 0, .int 0, .int 0, .int 0, .int 0, .int (-1), .int 0, .ref pg46, .ref pg47, .ref pg48, .ref pg49, .ref pg50, .int 0, .int 0, .ref pg51, .ref pg52, .ref pg53, .ref pg54, .ref pg55, .ref pg56, .ref pg57, .ref pg58, .int 0, .int 0, .int 0, .int 0, .ref pg59, .ref pg60, .int 0, .ref pg61, .ref pg62, .ref pg63, .ref pg64, .ref pg65, .ref pg66])), (ph1, .inl (K 0, 256, .inl f6)), (ph2, .inl (K 0, 256, .inl f7))]) B inlX12 tyX12_ok nmX12 hP hD hS 0 rfl rfl 18 rfl mfl_X12_230 rfl rfl rfl rfl rfl rfl dX12_land_75 (fun H locs hP hD hS => ?_)
          refine lv_aload_n hx hb dX12_land_78 rfl (lv_at hl 1 rfl) ?_
          refine lv_iconst (v := 0) hx hb dX12_land_79 (by decide) ?_
          refine uPut (ci := 12) (C := RX12) (T := TX12) (N := 99) (ws' := [(ph0, .inr (12, [.int 0, .int px69, .int px70, .ref ph1, .ref ph2, .ref pg3, .ref pg4, .int 0, .ref pg5, .ref pg6, .int 0, .ref pg7, .ref pg8, .ref pg9, .ref pg10, .ref pg11, .ref pg12, .ref pg13, .int 0, .ref pg14, .ref pg15, .ref pg16, .ref pg17, .ref pg18, .ref pg19, .int 0, .ref pg20, .int 0, .int 0, .int 0, .ref pg21, .int 0, .int 0, .ref pg22, .int 0, .ref pg23, .ref pg24, .ref pg25, .ref pg26, .ref pg27, .ref pg28, .ref pg29, .ref pg30, .ref pg31, .ref pg32, .ref pg33, .ref pg34, .ref pg35, .ref pg36, .ref pg37, .ref pg38, .ref pg39, .ref pg40, .ref pg41, .ref pg42, .ref pg43, .ref pg44, .ref pg45, .int 0, .int 0, .int 0, .int 0, .int 0, .long 0, .int 0, .int 0, .int 0, .int 0, .int 0, .int (-1), .int 0, .ref pg46, .ref pg47, .ref pg48, .ref pg49, .ref pg50, .int 0, .int 0, .ref pg51, .ref pg52, .ref pg53, .ref pg54, .ref pg55, .ref pg56, .ref pg57, .ref pg58, .int 0, .int 0, .int 0, .int 0, .ref pg59, .ref pg60, .int 0, .ref pg61, .ref pg62, .ref pg63, .ref pg64, .ref pg65, .ref pg66])), (ph1, .inl (K 0, 256, .inl f6)), (ph2, .inl (K 0, 256, .inl f7))]) B inlX12 tyX12_ok nmX12 hP hD hS 0 rfl rfl 70 rfl mfl_X12_233 rfl rfl rfl rfl rfl rfl dX12_land_80 (fun H locs hP hD hS => ?_)
          refine lv_pc (q := 83) rfl ?_
          refine lv_aload_n hx hb dX12_land_83 rfl (lv_at hl 1 rfl) ?_
          refine lv_iconst (v := 0) hx hb dX12_land_84 (by decide) ?_
          refine uPut (ci := 12) (C := RX12) (T := TX12) (N := 99) (ws' := [(ph0, .inr (12, [.int 0, .int px69, .int px70, .ref ph1, .ref ph2, .ref pg3, .ref pg4, .int 0, .ref pg5, .ref pg6, .int 0, .ref pg7, .ref pg8, .ref pg9, .ref pg10, .ref pg11, .ref pg12, .ref pg13, .int 0, .ref pg14, .ref pg15, .ref pg16, .ref pg17, .ref pg18, .ref pg19, .int 0, .ref pg20, .int 0, .int 0, .int 0, .ref pg21, .int 0, .int 0, .ref pg22, .int 0, .ref pg23, .ref pg24, .ref pg25, .ref pg26, .ref pg27, .ref pg28, .ref pg29, .ref pg30, .ref pg31, .ref pg32, .ref pg33, .ref pg34, .ref pg35, .ref pg36, .ref pg37, .ref pg38, .ref pg39, .ref pg40, .ref pg41, .ref pg42, .ref pg43, .ref pg44, .ref pg45, .int 0, .int 0, .int 0, .int 0, .int 0, .long 0, .int 0, .int 0, .int 0, .int 0, .int 0, .int (-1), .int 0, .ref pg46, .ref pg47, .ref pg48, .ref pg49, .ref pg50, .int 0, .int 0, .ref pg51, .ref pg52, .ref pg53, .ref pg54, .ref pg55, .ref pg56, .ref pg57, .ref pg58, .int 0, .int 0, .int 0, .int 0, .ref pg59, .ref pg60, .int 0, .ref pg61, .ref pg62, .ref pg63, .ref pg64, .ref pg65, .ref pg66])), (ph1, .inl (K 0, 256, .inl f6)), (ph2, .inl (K 0, 256, .inl f7))]) B inlX12 tyX12_ok nmX12 hP hD hS 0 rfl rfl 29 rfl mfl_X12_237 rfl rfl rfl rfl rfl rfl dX12_land_85 (fun H locs hP hD hS => ?_)
          refine lv_aload_n hx hb dX12_land_88 rfl (lv_at hl 1 rfl) ?_
          refine lv_iconst (v := 0) hx hb dX12_land_89 (by decide) ?_
          refine uPut (ci := 12) (C := RX12) (T := TX12) (N := 99) (ws' := [(ph0, .inr (12, [.int 0, .int px69, .int px70, .ref ph1, .ref ph2, .ref pg3, .ref pg4, .int 0, .ref pg5, .ref pg6, .int 0, .ref pg7, .ref pg8, .ref pg9, .ref pg10, .ref pg11, .ref pg12, .ref pg13, .int 0, .ref pg14, .ref pg15, .ref pg16, .ref pg17, .ref pg18, .ref pg19, .int 0, .ref pg20, .int 0, .int 0, .int 0, .ref pg21, .int 0, .int 0, .ref pg22, .int 0, .ref pg23, .ref pg24, .ref pg25, .ref pg26, .ref pg27, .ref pg28, .ref pg29, .ref pg30, .ref pg31, .ref pg32, .ref pg33, .ref pg34, .ref pg35, .ref pg36, .ref pg37, .ref pg38, .ref pg39, .ref pg40, .ref pg41, .ref pg42, .ref pg43, .ref pg44, .ref pg45, .int 0, .int 0, .int 0, .int 0, .int 0, .long 0, .int 0, .int 0, .int 0, .int 0, .int 0, .int (-1), .int 0, .ref pg46, .ref pg47, .ref pg48, .ref pg49, .ref pg50, .int 0, .int 0, .ref pg51, .ref pg52, .ref pg53, .ref pg54, .ref pg55, .ref pg56, .ref pg57, .ref pg58, .int 0, .int 0, .int 0, .int 0, .ref pg59, .ref pg60, .int 0, .ref pg61, .ref pg62, .ref pg63, .ref pg64, .ref pg65, .ref pg66])), (ph1, .inl (K 0, 256, .inl f6)), (ph2, .inl (K 0, 256, .inl f7))]) B inlX12 tyX12_ok nmX12 hP hD hS 0 rfl rfl 92 rfl mfl_X12_240 rfl rfl rfl rfl rfl rfl dX12_land_90 (fun H locs hP hD hS => ?_)
          refine lv_pc (q := 93) rfl ?_
          refine lv_iconst (v := 1) hx hb dX12_land_93 (by decide) ?_
          exact uRz () B rfl (Or.inr ⟨rfl, ⟨c1, c2, c3, c4⟩⟩) (uSub hP [] rfl) (hD.sub [] rfl rfl) hS dX12_land_94
        have k_10 : ¬ 256 ≤ j5 := fun h9 => c10 ((nI_leI (a := 256) (b := j5) (by omega) (by omega)).mpr h9)
        refine lv_aload_n hx hb dX12_land_48 rfl (lv_at hl 1 rfl) ?_
        refine uGet (ci := 12) (C := RX12) (T := TX12) (N := 99) (v := .ref ph1) B inlX12 hP 0 rfl rfl 3 rfl mfl_X12_16 rfl rfl dX12_land_49 ?_
        refine lv_iload_n hx hb dX12_land_52 rfl (lv_at hl 0 rfl) ?_
        refine lv_pc (q := 53) rfl ?_
        refine lv_iconst (v := 0) hx hb dX12_land_53 (by decide) ?_
        refine uIast (i := (nI j5)) (j := j5) (ws' := [(ph0, .inr (12, [.int 0, .int px69, .int px70, .ref ph1, .ref ph2, .ref pg3, .ref pg4, .int 0, .ref pg5, .ref pg6, .int 0, .ref pg7, .ref pg8, .ref pg9, .ref pg10, .ref pg11, .ref pg12, .ref pg13, .int 0, .ref pg14, .ref pg15, .ref pg16, .ref pg17, .ref pg18, .ref pg19, .int 0, .ref pg20, .int 0, .int 0, .int 0, .ref pg21, .int 0, .int 0, .ref pg22, .int 0, .ref pg23, .ref pg24, .ref pg25, .ref pg26, .ref pg27, .ref pg28, .ref pg29, .ref pg30, .ref pg31, .ref pg32, .ref pg33, .ref pg34, .ref pg35, .ref pg36, .ref pg37, .ref pg38, .ref pg39, .ref pg40, .ref pg41, .ref pg42, .ref pg43, .ref pg44, .ref pg45, .int 0, .int 0, .int 0, .int 0, .int 0, .long 0, .int 0, .int 0, .int 0, .int 0, .int 0, .int (-1), .int 0, .ref pg46, .ref pg47, .ref pg48, .ref pg49, .ref pg50, .int 0, .int 0, .ref pg51, .ref pg52, .ref pg53, .ref pg54, .ref pg55, .ref pg56, .ref pg57, .ref pg58, .int 0, .int 0, .int 0, .int 0, .ref pg59, .ref pg60, .int 0, .ref pg61, .ref pg62, .ref pg63, .ref pg64, .ref pg65, .ref pg66])), (ph1, .inl (K 0, 256, .inl (upd f6 j5 0))), (ph2, .inl (K 0, 256, .inl f7))]) B hP hD hS 1 rfl (nI_in (by omega) (by omega)) (nI_clamp (by omega)) rfl dX12_land_54 (fun H locs hP hD hS => ?_)
        refine lv_aload_n hx hb dX12_land_55 rfl (lv_at hl 1 rfl) ?_
        refine uGet (ci := 12) (C := RX12) (T := TX12) (N := 99) (v := .ref ph2) B inlX12 hP 0 rfl rfl 4 rfl mfl_X12_20 rfl rfl dX12_land_56 ?_
        refine lv_iload_n hx hb dX12_land_59 rfl (lv_at hl 0 rfl) ?_
        refine lv_iconst (v := 0) hx hb dX12_land_60 (by decide) ?_
        refine lv_pc (q := 61) rfl ?_
        refine uIast (i := (nI j5)) (j := j5) (ws' := [(ph0, .inr (12, [.int 0, .int px69, .int px70, .ref ph1, .ref ph2, .ref pg3, .ref pg4, .int 0, .ref pg5, .ref pg6, .int 0, .ref pg7, .ref pg8, .ref pg9, .ref pg10, .ref pg11, .ref pg12, .ref pg13, .int 0, .ref pg14, .ref pg15, .ref pg16, .ref pg17, .ref pg18, .ref pg19, .int 0, .ref pg20, .int 0, .int 0, .int 0, .ref pg21, .int 0, .int 0, .ref pg22, .int 0, .ref pg23, .ref pg24, .ref pg25, .ref pg26, .ref pg27, .ref pg28, .ref pg29, .ref pg30, .ref pg31, .ref pg32, .ref pg33, .ref pg34, .ref pg35, .ref pg36, .ref pg37, .ref pg38, .ref pg39, .ref pg40, .ref pg41, .ref pg42, .ref pg43, .ref pg44, .ref pg45, .int 0, .int 0, .int 0, .int 0, .int 0, .long 0, .int 0, .int 0, .int 0, .int 0, .int 0, .int (-1), .int 0, .ref pg46, .ref pg47, .ref pg48, .ref pg49, .ref pg50, .int 0, .int 0, .ref pg51, .ref pg52, .ref pg53, .ref pg54, .ref pg55, .ref pg56, .ref pg57, .ref pg58, .int 0, .int 0, .int 0, .int 0, .ref pg59, .ref pg60, .int 0, .ref pg61, .ref pg62, .ref pg63, .ref pg64, .ref pg65, .ref pg66])), (ph1, .inl (K 0, 256, .inl (upd f6 j5 0))), (ph2, .inl (K 0, 256, .inl (upd f7 j5 0)))]) B hP hD hS 2 rfl (nI_in (by omega) (by omega)) (nI_clamp (by omega)) rfl dX12_land_61 (fun H locs hP hD hS => ?_)
        refine lv_iinc (v := nI (j5 + 1)) (lv' := [(3, .int (nI (j5 + 1))), (0, .ref ph0), (1, .int px69), (2, .int px70)]) hx hb dX12_land_62 hl (k := 0) rfl (nI_1 _) (by decide) rfl (fun ls hl => ?_)
        refine lv_goto (tgt := 41) hx hb dX12_land_65 (by decide) ?_
        refine lv_pc (q := 41) rfl ?_
        refine W.widen (k := 0) (n := 0) (Nat.le_of_ble_eq_true rfl) (Nat.le_of_ble_eq_true rfl) ?_
        exact ih41 (j5 + 1) (upd f6 j5 0) (upd f7 j5 0) (by omega) (by omega) _ _ _ (uSub hP [0, 1, 2] rfl) (hD.sub [0, 1, 2] rfl rfl) hS (lv_sub hl [0, 1, 2, 3] rfl)
    refine lv_pc (q := 41) rfl ?_
    refine W.widen (k := 0) (n := 0) (Nat.le_of_ble_eq_true rfl) (Nat.le_of_ble_eq_true rfl) ?_
    exact L9 ((256 - 0) + 1) 0 pf67 pf68 (by omega) (Nat.lt_succ_self _) _ _ _ hP hD hS hl
  refine lv_iconst (v := 0) hx hb dX12_land_27 (by decide) ?_
  exact uRz () B rfl (Or.inl ⟨rfl, Or.inr (Or.inr (Or.inr ⟨c1, c2, c3, c4⟩))⟩) (uSub hP [] rfl) (hD.sub [] rfl rfl) hS dX12_land_28
def qkX9_has_32 (ph0 : Nat) (pg1 : Nat) (pg2 : Nat) (pg3 : Nat) (pg4 : Nat) (pg5 : Nat) (pg6 : Nat) (px7 : Int32) (px8 : Int32) : Int32 → (Unit) → Prop := (fun (r : Int32) (u : Unit) => (r = 0 ∧ ((px7 < 0) ∨ (¬ px7 < 0 ∧ 4 ≤ px7) ∨ (¬ px7 < 0 ∧ ¬ 4 ≤ px7 ∧ px8 < 0) ∨ (¬ px7 < 0 ∧ ¬ 4 ≤ px7 ∧ ¬ px8 < 0 ∧ 4 ≤ px8))) ∨ (r = 1 ∧ (¬ px7 < 0 ∧ ¬ 4 ≤ px7 ∧ ¬ px8 < 0 ∧ ¬ 4 ≤ px8)))
def vkX9_has_32 (K : Nat → ClassId) (ph0 : Nat) (pg1 : Nat) (pg2 : Nat) (pg3 : Nat) (pg4 : Nat) (pg5 : Nat) (pg6 : Nat) (px7 : Int32) (px8 : Int32) : (Unit) → va_W := (fun (u : Unit) => [(ph0, .inr (9, [.ref pg1, .ref pg2, .ref pg3, .ref pg4, .ref pg5, .ref pg6, .int 4, .int 4, .int 0]))])
set_option maxHeartbeats 4000000 in
set_option maxRecDepth 100000 in
theorem kX9_has_32 (l : Launch) (D : va_G) (K : Nat → ClassId) (sz : Nat) (ph0 : Nat) (pg1 : Nat) (pg2 : Nat) (pg3 : Nat) (pg4 : Nat) (pg5 : Nat) (pg6 : Nat) (px7 : Int32) (px8 : Int32) : uMi l yX9_has cX9_has 3 (some .boolean) { frames := 0, cells := 0, slots := 0, locals := 0 } [.ref ph0, .int px7, .int px8] D K [(ph0, .inr (9, [.ref pg1, .ref pg2, .ref pg3, .ref pg4, .ref pg5, .ref pg6, .int 4, .int 4, .int 0]))] sz (qkX9_has_32 ph0 pg1 pg2 pg3 pg4 pg5 pg6 px7 px8) (vkX9_has_32 K ph0 pg1 pg2 pg3 pg4 pg5 pg6 px7 px8) := by
  refine uMet (Qc := uQi D (qkX9_has_32 ph0 pg1 pg2 pg3 pg4 pg5 pg6 px7 px8) (vkX9_has_32 K ph0 pg1 pg2 pg3 pg4 pg5 pg6 px7 px8)) (ret := (some .boolean)) (by decide) (Nat.le_of_ble_eq_true rfl) ?_
  intro p e s m below meth c A ls hAe hsz B hP hD hS hl
  have hx := B.1
  have hb := B.2.1
  have hl : lv_has ls 3 [(0, .ref ph0), (1, .int px7), (2, .int px8)] := hl
  refine lv_iload_n hx hb dX9_has_0 rfl (lv_at hl 1 rfl) ?_
  refine lv_if_lt (tgt := 28) hx hb dX9_has_1 (by decide) (fun c1 => ?_) (fun c1 => ?_)
  · refine lv_iconst (v := 0) hx hb dX9_has_28 (by decide) ?_
    exact uRz () B rfl (Or.inl ⟨rfl, Or.inl c1⟩) (uSub hP [0] rfl) (hD.sub [0] rfl rfl) hS dX9_has_29
  refine lv_iload_n hx hb dX9_has_4 rfl (lv_at hl 1 rfl) ?_
  refine lv_aload_n hx hb dX9_has_5 rfl (lv_at hl 0 rfl) ?_
  refine uGet (ci := 9) (C := RX9) (T := TX9) (N := 9) (v := .int 4) B inlX9 hP 0 rfl rfl 6 rfl mfl_X9_30 rfl rfl dX9_has_6 ?_
  refine lv_pc (q := 9) rfl ?_
  refine lv_icmp_ge (tgt := 28) hx hb dX9_has_9 (by decide) (fun c2 => ?_) (fun c2 => ?_)
  · refine lv_iconst (v := 0) hx hb dX9_has_28 (by decide) ?_
    exact uRz () B rfl (Or.inl ⟨rfl, Or.inr (Or.inl ⟨c1, c2⟩)⟩) (uSub hP [0] rfl) (hD.sub [0] rfl rfl) hS dX9_has_29
  refine lv_iload_n hx hb dX9_has_12 rfl (lv_at hl 2 rfl) ?_
  refine lv_if_lt (tgt := 28) hx hb dX9_has_13 (by decide) (fun c3 => ?_) (fun c3 => ?_)
  · refine lv_iconst (v := 0) hx hb dX9_has_28 (by decide) ?_
    exact uRz () B rfl (Or.inl ⟨rfl, Or.inr (Or.inr (Or.inl ⟨c1, c2, c3⟩))⟩) (uSub hP [0] rfl) (hD.sub [0] rfl rfl) hS dX9_has_29
  refine lv_iload_n hx hb dX9_has_16 rfl (lv_at hl 2 rfl) ?_
  refine lv_aload_n hx hb dX9_has_17 rfl (lv_at hl 0 rfl) ?_
  refine uGet (ci := 9) (C := RX9) (T := TX9) (N := 9) (v := .int 4) B inlX9 hP 0 rfl rfl 7 rfl mfl_X9_34 rfl rfl dX9_has_18 ?_
  refine lv_pc (q := 21) rfl ?_
  refine lv_icmp_ge (tgt := 28) hx hb dX9_has_21 (by decide) (fun c4 => ?_) (fun c4 => ?_)
  · refine lv_iconst (v := 0) hx hb dX9_has_28 (by decide) ?_
    exact uRz () B rfl (Or.inl ⟨rfl, Or.inr (Or.inr (Or.inr ⟨c1, c2, c3, c4⟩))⟩) (uSub hP [0] rfl) (hD.sub [0] rfl rfl) hS dX9_has_29
  refine lv_iconst (v := 1) hx hb dX9_has_24 (by decide) ?_
  refine lv_goto (tgt := 29) hx hb dX9_has_25 (by decide) ?_
  exact uRz () B rfl (Or.inr ⟨rfl, ⟨c1, c2, c3, c4⟩⟩) (uSub hP [0] rfl) (hD.sub [0] rfl rfl) hS dX9_has_29
def qkX9_cell_33 (pn0 : Nat) (pn1 : Nat) : Int32 → (Unit) → Prop := (fun (r : Int32) (u : Unit) => r = nI ((pn1 * 16) + pn0))
def vkX9_cell_33 (K : Nat → ClassId) (pn0 : Nat) (pn1 : Nat) : (Unit) → va_W := (fun (u : Unit) => [])
set_option maxHeartbeats 4000000 in
set_option maxRecDepth 100000 in
theorem kX9_cell_33 (l : Launch) (D : va_G) (K : Nat → ClassId) (sz : Nat) (pn0 : Nat) (pn1 : Nat) (hpn0 : pn0 < 16) (hpn1 : pn1 < 16) : uMi l yX9_cell cX9_cell 2 (some .int) { frames := 0, cells := 0, slots := 0, locals := 0 } [.int (nI pn0), .int (nI pn1)] D K [] sz (qkX9_cell_33 pn0 pn1) (vkX9_cell_33 K pn0 pn1) := by
  refine uMet (Qc := uQi D (qkX9_cell_33 pn0 pn1) (vkX9_cell_33 K pn0 pn1)) (ret := (some .int)) (by decide) (Nat.le_of_ble_eq_true rfl) ?_
  intro p e s m below meth c A ls hAe hsz B hP hD hS hl
  have hx := B.1
  have hb := B.2.1
  have hl : lv_has ls 2 [(0, .int (nI pn0)), (1, .int (nI pn1))] := hl
  refine lv_iload_n hx hb dX9_cell_0 rfl (lv_at hl 1 rfl) ?_
  refine lv_bipush (v := 16) hx hb dX9_cell_1 (by decide) ?_
  refine lv_imul hx hb dX9_cell_3 ?_
  refine lv_fixi (y := (nI (pn1 * 16))) (by rw [show (16 : Int32) = nI 16 from rfl, pk_mul]) ?_
  refine lv_iload_n hx hb dX9_cell_4 rfl (lv_at hl 0 rfl) ?_
  refine lv_iadd hx hb dX9_cell_5 ?_
  refine lv_fixi (y := (nI ((pn1 * 16) + pn0))) (by rw [nI_add]) ?_
  refine lv_pc (q := 6) rfl ?_
  exact uRi () B rfl (uSub hP [] rfl) (hD.sub [] rfl rfl) hS dX9_cell_6
def qkX9_lay_34 (ph0 : Nat) (ph1 : Nat) (ph2 : Nat) (pg3 : Nat) (pg4 : Nat) (pg5 : Nat) (pg6 : Nat) (pf7 : Nat → Int32) (pf8 : Nat → Int32) (px9 : Int32) (px10 : Int32) (px11 : Int32) (px12 : Int32) (px13 : Int32) (px14 : Int32) : Int32 → ((Nat → Int32) × (Nat → Int32)) → Prop := (fun (r : Int32) (u : (Nat → Int32) × (Nat → Int32)) => (r = 0 ∧ ((((px9 < 0) ∨ (¬ px9 < 0 ∧ 4 ≤ px9) ∨ (¬ px9 < 0 ∧ ¬ 4 ≤ px9 ∧ px10 < 0) ∨ (¬ px9 < 0 ∧ ¬ 4 ≤ px9 ∧ ¬ px10 < 0 ∧ 4 ≤ px10))) ∨ (¬ px9 < 0 ∧ ¬ 4 ≤ px9 ∧ ¬ px10 < 0 ∧ ¬ 4 ≤ px10 ∧ ((px11 < 0) ∨ (¬ px11 < 0 ∧ 4 ≤ px11) ∨ (¬ px11 < 0 ∧ ¬ 4 ≤ px11 ∧ px12 < 0) ∨ (¬ px11 < 0 ∧ ¬ 4 ≤ px11 ∧ ¬ px12 < 0 ∧ 4 ≤ px12))) ∨ (¬ px9 < 0 ∧ ¬ 4 ≤ px9 ∧ ¬ px10 < 0 ∧ ¬ 4 ≤ px10 ∧ ¬ px11 < 0 ∧ ¬ 4 ≤ px11 ∧ ¬ px12 < 0 ∧ ¬ 4 ≤ px12 ∧ px11 < px9) ∨ (¬ px9 < 0 ∧ ¬ 4 ≤ px9 ∧ ¬ px10 < 0 ∧ ¬ 4 ≤ px10 ∧ ¬ px11 < 0 ∧ ¬ 4 ≤ px11 ∧ ¬ px12 < 0 ∧ ¬ 4 ≤ px12 ∧ ¬ px11 < px9 ∧ px10 ≤ px12 ∧ px13 < 0) ∨ (¬ px9 < 0 ∧ ¬ 4 ≤ px9 ∧ ¬ px10 < 0 ∧ ¬ 4 ≤ px10 ∧ ¬ px11 < 0 ∧ ¬ 4 ≤ px11 ∧ ¬ px12 < 0 ∧ ¬ 4 ≤ px12 ∧ ¬ px11 < px9 ∧ px10 ≤ px12 ∧ ¬ px13 < 0 ∧ 999 < px13) ∨ (¬ px9 < 0 ∧ ¬ 4 ≤ px9 ∧ ¬ px10 < 0 ∧ ¬ 4 ≤ px10 ∧ ¬ px11 < 0 ∧ ¬ 4 ≤ px11 ∧ ¬ px12 < 0 ∧ ¬ 4 ≤ px12 ∧ ¬ px11 < px9 ∧ px10 ≤ px12 ∧ ¬ px13 < 0 ∧ ¬ 999 < px13 ∧ px14 < 0) ∨ (¬ px9 < 0 ∧ ¬ 4 ≤ px9 ∧ ¬ px10 < 0 ∧ ¬ 4 ≤ px10 ∧ ¬ px11 < 0 ∧ ¬ 4 ≤ px11 ∧ ¬ px12 < 0 ∧ ¬ 4 ≤ px12 ∧ ¬ px11 < px9 ∧ px10 ≤ px12 ∧ ¬ px13 < 0 ∧ ¬ 999 < px13 ∧ ¬ px14 < 0 ∧ ¬ px14 < 4) ∨ (¬ px9 < 0 ∧ ¬ 4 ≤ px9 ∧ ¬ px10 < 0 ∧ ¬ 4 ≤ px10 ∧ ¬ px11 < 0 ∧ ¬ 4 ≤ px11 ∧ ¬ px12 < 0 ∧ ¬ 4 ≤ px12 ∧ ¬ px11 < px9 ∧ ¬ px10 ≤ px12))) ∨ (r = 1 ∧ (¬ px9 < 0 ∧ ¬ 4 ≤ px9 ∧ ¬ px10 < 0 ∧ ¬ 4 ≤ px10 ∧ ¬ px11 < 0 ∧ ¬ 4 ≤ px11 ∧ ¬ px12 < 0 ∧ ¬ 4 ≤ px12 ∧ ¬ px11 < px9 ∧ px10 ≤ px12 ∧ ¬ px13 < 0 ∧ ¬ 999 < px13 ∧ ¬ px14 < 0 ∧ px14 < 4)))
def vkX9_lay_34 (K : Nat → ClassId) (ph0 : Nat) (ph1 : Nat) (ph2 : Nat) (pg3 : Nat) (pg4 : Nat) (pg5 : Nat) (pg6 : Nat) (pf7 : Nat → Int32) (pf8 : Nat → Int32) (px9 : Int32) (px10 : Int32) (px11 : Int32) (px12 : Int32) (px13 : Int32) (px14 : Int32) : ((Nat → Int32) × (Nat → Int32)) → va_W := (fun (u : (Nat → Int32) × (Nat → Int32)) => [(ph0, .inr (9, [.ref ph1, .ref ph2, .ref pg3, .ref pg4, .ref pg5, .ref pg6, .int 4, .int 4, .int 0])), (ph1, .inl (K 0, 256, .inl (u.1))), (ph2, .inl (K 0, 256, .inl (u.2)))])
set_option maxHeartbeats 4000000 in
set_option maxRecDepth 100000 in
theorem kX9_lay_34 (l : Launch) (D : va_G) (K : Nat → ClassId) (sz : Nat) (ph0 : Nat) (ph1 : Nat) (ph2 : Nat) (pg3 : Nat) (pg4 : Nat) (pg5 : Nat) (pg6 : Nat) (pf7 : Nat → Int32) (pf8 : Nat → Int32) (px9 : Int32) (px10 : Int32) (px11 : Int32) (px12 : Int32) (px13 : Int32) (px14 : Int32) : uMi l yX9_lay cX9_lay 9 (some .boolean) { frames := 1, cells := 0, slots := 0, locals := 22 } [.ref ph0, .int px9, .int px10, .int px11, .int px12, .int px13, .int px14] D K [(ph0, .inr (9, [.ref ph1, .ref ph2, .ref pg3, .ref pg4, .ref pg5, .ref pg6, .int 4, .int 4, .int 0])), (ph1, .inl (K 0, 256, .inl pf7)), (ph2, .inl (K 0, 256, .inl pf8))] sz (qkX9_lay_34 ph0 ph1 ph2 pg3 pg4 pg5 pg6 pf7 pf8 px9 px10 px11 px12 px13 px14) (vkX9_lay_34 K ph0 ph1 ph2 pg3 pg4 pg5 pg6 pf7 pf8 px9 px10 px11 px12 px13 px14) := by
  refine uMet (Qc := uQi D (qkX9_lay_34 ph0 ph1 ph2 pg3 pg4 pg5 pg6 pf7 pf8 px9 px10 px11 px12 px13 px14) (vkX9_lay_34 K ph0 ph1 ph2 pg3 pg4 pg5 pg6 pf7 pf8 px9 px10 px11 px12 px13 px14)) (ret := (some .boolean)) (by decide) (Nat.le_of_ble_eq_true rfl) ?_
  intro p e s m below meth c A ls hAe hsz B hP hD hS hl
  have hx := B.1
  have hb := B.2.1
  have hl : lv_has ls 9 [(0, .ref ph0), (1, .int px9), (2, .int px10), (3, .int px11), (4, .int px12), (5, .int px13), (6, .int px14)] := hl
  refine lv_aload_n hx hb dX9_lay_0 rfl (lv_at hl 0 rfl) ?_
  refine lv_iload_n hx hb dX9_lay_1 rfl (lv_at hl 1 rfl) ?_
  refine lv_iload_n hx hb dX9_lay_2 rfl (lv_at hl 2 rfl) ?_
  refine uVi (As := [.int px9, .int px10]) (rest := []) (wr := [(ph1, .inl (K 0, 256, .inl pf7)), (ph2, .inl (K 0, 256, .inl pf8))]) [(ph0, .inr (9, [.ref ph1, .ref ph2, .ref pg3, .ref pg4, .ref pg5, .ref pg6, .int 4, .int 4, .int 0]))] B hl.1 hP hD hS [0] [1, 2] rfl rfl rfl (kX9_has_32 l D K _ ph0 ph1 ph2 pg3 pg4 pg5 pg6 px9 px10) wd_X9_has mml_X9_46 rfl rfl rfl rfl ⟨Nat.le_of_ble_eq_true rfl, Nat.le_of_ble_eq_true rfl⟩ (Nat.le_of_ble_eq_true rfl) ⟨Nat.le_of_ble_eq_true rfl, Nat.le_of_ble_eq_true rfl⟩ dX9_lay_3 (fun r1 u H locs hw hP hD hS => ?_)
  try dsimp only at hw
  rcases hw with ⟨rfl, w2⟩ | ⟨rfl, ⟨w3, w4, w5, w6⟩⟩
  · have hP : va_P D vwCl [(ph1, .inl (K 0, 256, .inl pf7)), (ph2, .inl (K 0, 256, .inl pf8)), (ph0, .inr (9, [.ref ph1, .ref ph2, .ref pg3, .ref pg4, .ref pg5, .ref pg6, .int 4, .int 4, .int 0]))] H := hP
    have hD : va_D A [(ph1, .inl (K 0, 256, .inl pf7)), (ph2, .inl (K 0, 256, .inl pf8)), (ph0, .inr (9, [.ref ph1, .ref ph2, .ref pg3, .ref pg4, .ref pg5, .ref pg6, .int 4, .int 4, .int 0]))] := hD
    refine lv_if_eq (tgt := 30) hx hb dX9_lay_6 (by decide) (fun _ => ?_) (fun h9 => absurd (by decide) h9)
    refine lv_pc (q := 30) rfl ?_
    refine lv_iconst (v := 0) hx hb dX9_lay_30 (by decide) ?_
    exact uRz (pf7, pf8) B rfl (Or.inl ⟨rfl, Or.inl w2⟩) (uSub hP [2, 0, 1] rfl) (hD.sub [2, 0, 1] rfl rfl) hS dX9_lay_31
  have hP : va_P D vwCl [(ph1, .inl (K 0, 256, .inl pf7)), (ph2, .inl (K 0, 256, .inl pf8)), (ph0, .inr (9, [.ref ph1, .ref ph2, .ref pg3, .ref pg4, .ref pg5, .ref pg6, .int 4, .int 4, .int 0]))] H := hP
  have hD : va_D A [(ph1, .inl (K 0, 256, .inl pf7)), (ph2, .inl (K 0, 256, .inl pf8)), (ph0, .inr (9, [.ref ph1, .ref ph2, .ref pg3, .ref pg4, .ref pg5, .ref pg6, .int 4, .int 4, .int 0]))] := hD
  refine lv_if_eq (tgt := 30) hx hb dX9_lay_6 (by decide) (fun h9 => absurd h9 (by decide)) (fun _ => ?_)
  refine lv_pc (q := 9) rfl ?_
  refine lv_aload_n hx hb dX9_lay_9 rfl (lv_at hl 0 rfl) ?_
  refine lv_iload_n hx hb dX9_lay_10 rfl (lv_at hl 3 rfl) ?_
  refine lv_iload hx hb dX9_lay_11 (lv_at hl 4 rfl) ?_
  refine uVi (As := [.int px11, .int px12]) (rest := []) (wr := [(ph1, .inl (K 0, 256, .inl pf7)), (ph2, .inl (K 0, 256, .inl pf8))]) [(ph0, .inr (9, [.ref ph1, .ref ph2, .ref pg3, .ref pg4, .ref pg5, .ref pg6, .int 4, .int 4, .int 0]))] B hl.1 hP hD hS [2] [0, 1] rfl rfl rfl (kX9_has_32 l D K _ ph0 ph1 ph2 pg3 pg4 pg5 pg6 px11 px12) wd_X9_has mml_X9_46 rfl rfl rfl rfl ⟨Nat.le_of_ble_eq_true rfl, Nat.le_of_ble_eq_true rfl⟩ (Nat.le_of_ble_eq_true rfl) ⟨Nat.le_of_ble_eq_true rfl, Nat.le_of_ble_eq_true rfl⟩ dX9_lay_13 (fun r7 u H locs hw hP hD hS => ?_)
  try dsimp only at hw
  rcases hw with ⟨rfl, w8⟩ | ⟨rfl, ⟨w9, w10, w11, w12⟩⟩
  · have hP : va_P D vwCl [(ph1, .inl (K 0, 256, .inl pf7)), (ph2, .inl (K 0, 256, .inl pf8)), (ph0, .inr (9, [.ref ph1, .ref ph2, .ref pg3, .ref pg4, .ref pg5, .ref pg6, .int 4, .int 4, .int 0]))] H := hP
    have hD : va_D A [(ph1, .inl (K 0, 256, .inl pf7)), (ph2, .inl (K 0, 256, .inl pf8)), (ph0, .inr (9, [.ref ph1, .ref ph2, .ref pg3, .ref pg4, .ref pg5, .ref pg6, .int 4, .int 4, .int 0]))] := hD
    refine lv_if_eq (tgt := 30) hx hb dX9_lay_16 (by decide) (fun _ => ?_) (fun h9 => absurd (by decide) h9)
    refine lv_iconst (v := 0) hx hb dX9_lay_30 (by decide) ?_
    refine lv_pc (q := 31) rfl ?_
    exact uRz (pf7, pf8) B rfl (Or.inl ⟨rfl, Or.inr (Or.inl ⟨w3, w4, w5, w6, w8⟩)⟩) (uSub hP [2, 0, 1] rfl) (hD.sub [2, 0, 1] rfl rfl) hS dX9_lay_31
  have hP : va_P D vwCl [(ph1, .inl (K 0, 256, .inl pf7)), (ph2, .inl (K 0, 256, .inl pf8)), (ph0, .inr (9, [.ref ph1, .ref ph2, .ref pg3, .ref pg4, .ref pg5, .ref pg6, .int 4, .int 4, .int 0]))] H := hP
  have hD : va_D A [(ph1, .inl (K 0, 256, .inl pf7)), (ph2, .inl (K 0, 256, .inl pf8)), (ph0, .inr (9, [.ref ph1, .ref ph2, .ref pg3, .ref pg4, .ref pg5, .ref pg6, .int 4, .int 4, .int 0]))] := hD
  refine lv_if_eq (tgt := 30) hx hb dX9_lay_16 (by decide) (fun h9 => absurd h9 (by decide)) (fun _ => ?_)
  refine lv_iload_n hx hb dX9_lay_19 rfl (lv_at hl 1 rfl) ?_
  refine lv_pc (q := 20) rfl ?_
  refine lv_iload_n hx hb dX9_lay_20 rfl (lv_at hl 3 rfl) ?_
  refine lv_icmp_gt (tgt := 30) hx hb dX9_lay_21 (by decide) (fun c13 => ?_) (fun c13 => ?_)
  · refine lv_iconst (v := 0) hx hb dX9_lay_30 (by decide) ?_
    exact uRz (pf7, pf8) B rfl (Or.inl ⟨rfl, Or.inr (Or.inr (Or.inl ⟨w3, w4, w5, w6, w9, w10, w11, w12, c13⟩))⟩) (uSub hP [2, 0, 1] rfl) (hD.sub [2, 0, 1] rfl rfl) hS dX9_lay_31
  refine lv_iload_n hx hb dX9_lay_24 rfl (lv_at hl 2 rfl) ?_
  refine lv_iload hx hb dX9_lay_25 (lv_at hl 4 rfl) ?_
  refine lv_icmp_le (tgt := 32) hx hb dX9_lay_27 (by decide) (fun c14 => ?_) (fun c14 => ?_)
  · refine lv_iload hx hb dX9_lay_32 (lv_at hl 5 rfl) ?_
    refine lv_pc (q := 34) rfl ?_
    refine lv_if_lt (tgt := 56) hx hb dX9_lay_34 (by decide) (fun c15 => ?_) (fun c15 => ?_)
    · refine lv_iconst (v := 0) hx hb dX9_lay_56 (by decide) ?_
      exact uRz (pf7, pf8) B rfl (Or.inl ⟨rfl, Or.inr (Or.inr (Or.inr (Or.inl ⟨w3, w4, w5, w6, w9, w10, w11, w12, c13, c14, c15⟩)))⟩) (uSub hP [2, 0, 1] rfl) (hD.sub [2, 0, 1] rfl rfl) hS dX9_lay_57
    refine lv_iload hx hb dX9_lay_37 (lv_at hl 5 rfl) ?_
    refine lv_sipush (v := 999) hx hb dX9_lay_39 (by decide) ?_
    refine lv_icmp_gt (tgt := 56) hx hb dX9_lay_42 (by decide) (fun c16 => ?_) (fun c16 => ?_)
    · refine lv_iconst (v := 0) hx hb dX9_lay_56 (by decide) ?_
      exact uRz (pf7, pf8) B rfl (Or.inl ⟨rfl, Or.inr (Or.inr (Or.inr (Or.inr (Or.inl ⟨w3, w4, w5, w6, w9, w10, w11, w12, c13, c14, c15, c16⟩))))⟩) (uSub hP [2, 0, 1] rfl) (hD.sub [2, 0, 1] rfl rfl) hS dX9_lay_57
    refine lv_iload hx hb dX9_lay_45 (lv_at hl 6 rfl) ?_
    refine lv_if_lt (tgt := 56) hx hb dX9_lay_47 (by decide) (fun c17 => ?_) (fun c17 => ?_)
    · refine lv_pc (q := 56) rfl ?_
      refine lv_iconst (v := 0) hx hb dX9_lay_56 (by decide) ?_
      exact uRz (pf7, pf8) B rfl (Or.inl ⟨rfl, Or.inr (Or.inr (Or.inr (Or.inr (Or.inr (Or.inl ⟨w3, w4, w5, w6, w9, w10, w11, w12, c13, c14, c15, c16, c17⟩)))))⟩) (uSub hP [2, 0, 1] rfl) (hD.sub [2, 0, 1] rfl rfl) hS dX9_lay_57
    refine lv_pc (q := 50) rfl ?_
    refine lv_iload hx hb dX9_lay_50 (lv_at hl 6 rfl) ?_
    refine lv_iconst (v := 4) hx hb dX9_lay_52 (by decide) ?_
    refine lv_icmp_lt (tgt := 58) hx hb dX9_lay_53 (by decide) (fun c18 => ?_) (fun c18 => ?_)
    · obtain ⟨a19, ha19, ea19⟩ : ∃ a : Nat, a < 4 ∧ px9 = nI a := uNat (by simp only [fa_lt, fa_le, fa_eq, Int32.reduceToInt] at w3 w4; omega) (by simp only [fa_lt, fa_le, fa_eq, Int32.reduceToInt] at w3 w4; omega) (by decide)
      obtain ⟨a20, ha20, ea20⟩ : ∃ a : Nat, a < 4 ∧ px10 = nI a := uNat (by simp only [fa_lt, fa_le, fa_eq, Int32.reduceToInt] at w5 w6; omega) (by simp only [fa_lt, fa_le, fa_eq, Int32.reduceToInt] at w5 w6; omega) (by decide)
      obtain ⟨a21, ha21, ea21⟩ : ∃ a : Nat, a < 4 ∧ px11 = nI a := uNat (by simp only [fa_lt, fa_le, fa_eq, Int32.reduceToInt] at w9 w10; omega) (by simp only [fa_lt, fa_le, fa_eq, Int32.reduceToInt] at w9 w10; omega) (by decide)
      obtain ⟨a22, ha22, ea22⟩ : ∃ a : Nat, a < 4 ∧ px12 = nI a := uNat (by simp only [fa_lt, fa_le, fa_eq, Int32.reduceToInt] at w11 w12; omega) (by simp only [fa_lt, fa_le, fa_eq, Int32.reduceToInt] at w11 w12; omega) (by decide)
      have o23 : a19 ≤ a21 := by simp only [fa_lt, fa_le] at c13; rw [ea19, ea21, nI_toInt (by omega), nI_toInt (by omega)] at c13; omega
      have o24 : a20 ≤ a22 := by simp only [fa_lt, fa_le] at c14; rw [ea20, ea22, nI_toInt (by omega), nI_toInt (by omega)] at c14; omega
      refine lv_iload_n hx hb dX9_lay_58 rfl (lv_at hl 2 rfl) ?_
      refine lv_fixi (y := (nI a20)) ea20 ?_
      refine lv_istore (lv' := [(7, .int (nI a20)), (0, .ref ph0), (1, .int px9), (2, .int px10), (3, .int px11), (4, .int px12), (5, .int px13), (6, .int px14)]) hx hb dX9_lay_59 hl (by decide) rfl (fun ls hl => ?_)
      have L29 : ∀ (n9 : Nat) (j25 : Nat) (f26 : Nat → Int32) (f27 : Nat → Int32), (j25 ≤ (a22 + 1)) → (a22 + 1) - j25 < n9 → ∀ (H : Heap) (locs : List Loc) (ls : Array Slot), va_P D vwCl [(ph1, .inl (K 0, 256, .inl f26)), (ph2, .inl (K 0, 256, .inl f27)), (ph0, .inr (9, [.ref ph1, .ref ph2, .ref pg3, .ref pg4, .ref pg5, .ref pg6, .int 4, .int 4, .int 0]))] H → va_D A [(ph1, .inl (K 0, 256, .inl f26)), (ph2, .inl (K 0, 256, .inl f27)), (ph0, .inr (9, [.ref ph1, .ref ph2, .ref pg3, .ref pg4, .ref pg5, .ref pg6, .int 4, .int 4, .int 0]))] → va_S A s.heap H locs → lv_has ls 9 [(7, .int (nI j25)), (0, .ref ph0), (1, .int px9), (2, .int px10), (3, .int px11), (4, .int px12), (5, .int px13), (6, .int px14)] → W p l e { frames := 1, cells := 0, slots := 0, locals := 22 } s m ([.ref ph0, .int px9, .int px10, .int px11, .int px12, .int px13, .int px14] : List Value).toArray below meth c H locs 0 0 (MQ below (uQi D (qkX9_lay_34 ph0 ph1 ph2 pg3 pg4 pg5 pg6 pf7 pf8 px9 px10 px11 px12 px13 px14) (vkX9_lay_34 K ph0 ph1 ph2 pg3 pg4 pg5 pg6 pf7 pf8 px9 px10 px11 px12 px13 px14) A) ([.ref ph0, .int px9, .int px10, .int px11, .int px12, .int px13, .int px14] : List Value).toArray s 0 0 A) (F0 m 61 ls []) := by
        intro n9
        induction n9 with
        | zero => intros; exact absurd ‹_ < 0› (Nat.not_lt_zero _)
        | succ n61_ ih61 =>
          intro j25 f26 f27 hj25 hm61 H locs ls hP hD hS hl
          refine lv_iload hx hb dX9_lay_61 (lv_at hl 0 rfl) ?_
          refine lv_pc (q := 63) rfl ?_
          refine lv_iload hx hb dX9_lay_63 (lv_at hl 5 rfl) ?_
          refine lv_fixi (y := (nI a22)) ea22 ?_
          refine lv_icmp_gt (tgt := 117) hx hb dX9_lay_65 (by decide) (fun c30 => ?_) (fun c30 => ?_)
          · have k_30 : a22 < j25 := (nI_ltI (a := a22) (b := j25) (by omega) (by omega)).mp c30
            refine lv_iconst (v := 1) hx hb dX9_lay_117 (by decide) ?_
            exact uRz (f26, f27) B rfl (Or.inr ⟨rfl, ⟨w3, w4, w5, w6, w9, w10, w11, w12, c13, c14, c15, c16, c17, c18⟩⟩) (uSub hP [2, 0, 1] rfl) (hD.sub [2, 0, 1] rfl rfl) hS dX9_lay_118
          have k_30 : ¬ a22 < j25 := fun h9 => c30 ((nI_ltI (a := a22) (b := j25) (by omega) (by omega)).mpr h9)
          refine lv_iload_n hx hb dX9_lay_68 rfl (lv_at hl 2 rfl) ?_
          refine lv_fixi (y := (nI a19)) ea19 ?_
          refine lv_istore (lv' := [(8, .int (nI a19)), (7, .int (nI j25)), (0, .ref ph0), (1, .int px9), (2, .int px10), (3, .int px11), (4, .int px12), (5, .int px13), (6, .int px14)]) hx hb dX9_lay_69 hl (by decide) rfl (fun ls hl => ?_)
          have L35 : ∀ (n9 : Nat) (j31 : Nat) (f32 : Nat → Int32) (f33 : Nat → Int32), (j31 ≤ (a21 + 1)) → (a21 + 1) - j31 < n9 → ∀ (H : Heap) (locs : List Loc) (ls : Array Slot), va_P D vwCl [(ph1, .inl (K 0, 256, .inl f32)), (ph2, .inl (K 0, 256, .inl f33)), (ph0, .inr (9, [.ref ph1, .ref ph2, .ref pg3, .ref pg4, .ref pg5, .ref pg6, .int 4, .int 4, .int 0]))] H → va_D A [(ph1, .inl (K 0, 256, .inl f32)), (ph2, .inl (K 0, 256, .inl f33)), (ph0, .inr (9, [.ref ph1, .ref ph2, .ref pg3, .ref pg4, .ref pg5, .ref pg6, .int 4, .int 4, .int 0]))] → va_S A s.heap H locs → lv_has ls 9 [(8, .int (nI j31)), (7, .int (nI j25)), (0, .ref ph0), (1, .int px9), (2, .int px10), (3, .int px11), (4, .int px12), (5, .int px13), (6, .int px14)] → W p l e { frames := 1, cells := 0, slots := 0, locals := 22 } s m ([.ref ph0, .int px9, .int px10, .int px11, .int px12, .int px13, .int px14] : List Value).toArray below meth c H locs 0 0 (MQ below (uQi D (qkX9_lay_34 ph0 ph1 ph2 pg3 pg4 pg5 pg6 pf7 pf8 px9 px10 px11 px12 px13 px14) (vkX9_lay_34 K ph0 ph1 ph2 pg3 pg4 pg5 pg6 pf7 pf8 px9 px10 px11 px12 px13 px14) A) ([.ref ph0, .int px9, .int px10, .int px11, .int px12, .int px13, .int px14] : List Value).toArray s 0 0 A) (F0 m 71 ls []) := by
            intro n9
            induction n9 with
            | zero => intros; exact absurd ‹_ < 0› (Nat.not_lt_zero _)
            | succ n71_ ih71 =>
              intro j31 f32 f33 hj31 hm71 H locs ls hP hD hS hl
              refine lv_iload hx hb dX9_lay_71 (lv_at hl 0 rfl) ?_
              refine lv_iload_n hx hb dX9_lay_73 rfl (lv_at hl 5 rfl) ?_
              refine lv_fixi (y := (nI a21)) ea21 ?_
              refine lv_pc (q := 74) rfl ?_
              refine lv_icmp_gt (tgt := 111) hx hb dX9_lay_74 (by decide) (fun c36 => ?_) (fun c36 => ?_)
              · have k_36 : a21 < j31 := (nI_ltI (a := a21) (b := j31) (by omega) (by omega)).mp c36
                refine lv_iinc (v := nI (j25 + 1)) (lv' := [(7, .int (nI (j25 + 1))), (8, .int (nI j31)), (0, .ref ph0), (1, .int px9), (2, .int px10), (3, .int px11), (4, .int px12), (5, .int px13), (6, .int px14)]) hx hb dX9_lay_111 hl (k := 1) rfl (nI_1 _) (by decide) rfl (fun ls hl => ?_)
                refine lv_goto (tgt := 61) hx hb dX9_lay_114 (by decide) ?_
                refine lv_pc (q := 61) rfl ?_
                refine W.widen (k := 0) (n := 0) (Nat.le_of_ble_eq_true rfl) (Nat.le_of_ble_eq_true rfl) ?_
                exact ih61 (j25 + 1) f32 f33 (by omega) (by omega) _ _ _ (uSub hP [0, 1, 2] rfl) (hD.sub [0, 1, 2] rfl rfl) hS (lv_sub hl [0, 2, 3, 4, 5, 6, 7, 8] rfl)
              have k_36 : ¬ a21 < j31 := fun h9 => c36 ((nI_ltI (a := a21) (b := j31) (by omega) (by omega)).mpr h9)
              refine lv_aload_n hx hb dX9_lay_77 rfl (lv_at hl 2 rfl) ?_
              refine uGet (ci := 9) (C := RX9) (T := TX9) (N := 9) (v := .ref ph1) B inlX9 hP 2 rfl rfl 0 rfl mfl_X9_11 rfl rfl dX9_lay_78 ?_
              refine lv_iload hx hb dX9_lay_81 (lv_at hl 0 rfl) ?_
              refine lv_iload hx hb dX9_lay_83 (lv_at hl 1 rfl) ?_
              refine uSi (As := [.int (nI j31), .int (nI j25)]) (rest := [.ref ph1]) (wr := [(ph1, .inl (K 0, 256, .inl f32)), (ph2, .inl (K 0, 256, .inl f33)), (ph0, .inr (9, [.ref ph1, .ref ph2, .ref pg3, .ref pg4, .ref pg5, .ref pg6, .int 4, .int 4, .int 0]))]) [] B hl.1 hP hD hS [] [0, 1, 2] rfl rfl rfl (kX9_cell_33 l D K _ j31 j25 (by omega) (by omega)) wd_X9_cell mml_X9_50 rfl rfl ⟨Nat.le_of_ble_eq_true rfl, Nat.le_of_ble_eq_true rfl⟩ (Nat.le_of_ble_eq_true rfl) ⟨Nat.le_of_ble_eq_true rfl, Nat.le_of_ble_eq_true rfl⟩ dX9_lay_85 (fun r37 u H locs hw hP hD hS => ?_)
              try dsimp only at hw
              rcases hw with rfl
              have hP : va_P D vwCl [(ph1, .inl (K 0, 256, .inl f32)), (ph2, .inl (K 0, 256, .inl f33)), (ph0, .inr (9, [.ref ph1, .ref ph2, .ref pg3, .ref pg4, .ref pg5, .ref pg6, .int 4, .int 4, .int 0]))] H := hP
              have hD : va_D A [(ph1, .inl (K 0, 256, .inl f32)), (ph2, .inl (K 0, 256, .inl f33)), (ph0, .inr (9, [.ref ph1, .ref ph2, .ref pg3, .ref pg4, .ref pg5, .ref pg6, .int 4, .int 4, .int 0]))] := hD
              refine lv_pc (q := 88) rfl ?_
              refine lv_iload hx hb dX9_lay_88 (lv_at hl 7 rfl) ?_
              refine uIast (i := (nI ((j25 * 16) + j31))) (j := (j25 * 16) + j31) (ws' := [(ph1, .inl (K 0, 256, .inl (upd f32 ((j25 * 16) + j31) px13))), (ph2, .inl (K 0, 256, .inl f33)), (ph0, .inr (9, [.ref ph1, .ref ph2, .ref pg3, .ref pg4, .ref pg5, .ref pg6, .int 4, .int 4, .int 0]))]) B hP hD hS 0 rfl (nI_in (by omega) (by omega)) (nI_clamp (by omega)) rfl dX9_lay_90 (fun H locs hP hD hS => ?_)
              refine lv_aload_n hx hb dX9_lay_91 rfl (lv_at hl 2 rfl) ?_
              refine uGet (ci := 9) (C := RX9) (T := TX9) (N := 9) (v := .ref ph2) B inlX9 hP 2 rfl rfl 1 rfl mfl_X9_15 rfl rfl dX9_lay_92 ?_
              refine lv_iload hx hb dX9_lay_95 (lv_at hl 0 rfl) ?_
              refine lv_iload hx hb dX9_lay_97 (lv_at hl 1 rfl) ?_
              refine lv_pc (q := 99) rfl ?_
              refine uSi (As := [.int (nI j31), .int (nI j25)]) (rest := [.ref ph2]) (wr := [(ph1, .inl (K 0, 256, .inl (upd f32 ((j25 * 16) + j31) px13))), (ph2, .inl (K 0, 256, .inl f33)), (ph0, .inr (9, [.ref ph1, .ref ph2, .ref pg3, .ref pg4, .ref pg5, .ref pg6, .int 4, .int 4, .int 0]))]) [] B hl.1 hP hD hS [] [0, 1, 2] rfl rfl rfl (kX9_cell_33 l D K _ j31 j25 (by omega) (by omega)) wd_X9_cell mml_X9_50 rfl rfl ⟨Nat.le_of_ble_eq_true rfl, Nat.le_of_ble_eq_true rfl⟩ (Nat.le_of_ble_eq_true rfl) ⟨Nat.le_of_ble_eq_true rfl, Nat.le_of_ble_eq_true rfl⟩ dX9_lay_99 (fun r38 u H locs hw hP hD hS => ?_)
              try dsimp only at hw
              rcases hw with rfl
              have hP : va_P D vwCl [(ph1, .inl (K 0, 256, .inl (upd f32 ((j25 * 16) + j31) px13))), (ph2, .inl (K 0, 256, .inl f33)), (ph0, .inr (9, [.ref ph1, .ref ph2, .ref pg3, .ref pg4, .ref pg5, .ref pg6, .int 4, .int 4, .int 0]))] H := hP
              have hD : va_D A [(ph1, .inl (K 0, 256, .inl (upd f32 ((j25 * 16) + j31) px13))), (ph2, .inl (K 0, 256, .inl f33)), (ph0, .inr (9, [.ref ph1, .ref ph2, .ref pg3, .ref pg4, .ref pg5, .ref pg6, .int 4, .int 4, .int 0]))] := hD
              refine lv_iload hx hb dX9_lay_102 (lv_at hl 8 rfl) ?_
              refine uIast (i := (nI ((j25 * 16) + j31))) (j := (j25 * 16) + j31) (ws' := [(ph1, .inl (K 0, 256, .inl (upd f32 ((j25 * 16) + j31) px13))), (ph2, .inl (K 0, 256, .inl (upd f33 ((j25 * 16) + j31) px14))), (ph0, .inr (9, [.ref ph1, .ref ph2, .ref pg3, .ref pg4, .ref pg5, .ref pg6, .int 4, .int 4, .int 0]))]) B hP hD hS 1 rfl (nI_in (by omega) (by omega)) (nI_clamp (by omega)) rfl dX9_lay_104 (fun H locs hP hD hS => ?_)
              refine lv_iinc (v := nI (j31 + 1)) (lv' := [(8, .int (nI (j31 + 1))), (7, .int (nI j25)), (0, .ref ph0), (1, .int px9), (2, .int px10), (3, .int px11), (4, .int px12), (5, .int px13), (6, .int px14)]) hx hb dX9_lay_105 hl (k := 0) rfl (nI_1 _) (by decide) rfl (fun ls hl => ?_)
              refine lv_goto (tgt := 71) hx hb dX9_lay_108 (by decide) ?_
              refine lv_pc (q := 71) rfl ?_
              refine W.widen (k := 0) (n := 0) (Nat.le_of_ble_eq_true rfl) (Nat.le_of_ble_eq_true rfl) ?_
              exact ih71 (j31 + 1) (upd f32 ((j25 * 16) + j31) px13) (upd f33 ((j25 * 16) + j31) px14) (by omega) (by omega) _ _ _ (uSub hP [0, 1, 2] rfl) (hD.sub [0, 1, 2] rfl rfl) hS (lv_sub hl [0, 1, 2, 3, 4, 5, 6, 7, 8] rfl)
          refine lv_pc (q := 71) rfl ?_
          refine W.widen (k := 0) (n := 0) (Nat.le_of_ble_eq_true rfl) (Nat.le_of_ble_eq_true rfl) ?_
          exact L35 (((a21 + 1) - a19) + 1) a19 f26 f27 (by omega) (Nat.lt_succ_self _) _ _ _ hP hD hS hl
      refine lv_pc (q := 61) rfl ?_
      refine W.widen (k := 0) (n := 0) (Nat.le_of_ble_eq_true rfl) (Nat.le_of_ble_eq_true rfl) ?_
      exact L29 (((a22 + 1) - a20) + 1) a20 pf7 pf8 (by omega) (Nat.lt_succ_self _) _ _ _ hP hD hS hl
    refine lv_iconst (v := 0) hx hb dX9_lay_56 (by decide) ?_
    exact uRz (pf7, pf8) B rfl (Or.inl ⟨rfl, Or.inr (Or.inr (Or.inr (Or.inr (Or.inr (Or.inr (Or.inl ⟨w3, w4, w5, w6, w9, w10, w11, w12, c13, c14, c15, c16, c17, c18⟩))))))⟩) (uSub hP [2, 0, 1] rfl) (hD.sub [2, 0, 1] rfl rfl) hS dX9_lay_57
  refine lv_iconst (v := 0) hx hb dX9_lay_30 (by decide) ?_
  refine lv_pc (q := 31) rfl ?_
  exact uRz (pf7, pf8) B rfl (Or.inl ⟨rfl, Or.inr (Or.inr (Or.inr (Or.inr (Or.inr (Or.inr (Or.inr ⟨w3, w4, w5, w6, w9, w10, w11, w12, c13, c14⟩))))))⟩) (uSub hP [2, 0, 1] rfl) (hD.sub [2, 0, 1] rfl rfl) hS dX9_lay_31
def qkX11_ground_35 (ph0 : Nat) (ph1 : Nat) (ph2 : Nat) (ph3 : Nat) (ph4 : Nat) (ph5 : Nat) (pg6 : Nat) (pg7 : Nat) (pg8 : Nat) (pg9 : Nat) (pg10 : Nat) (pg11 : Nat) (pg12 : Nat) (pg13 : Nat) (pg14 : Nat) (pg15 : Nat) (pg16 : Nat) (pg17 : Nat) (pg18 : Nat) (pf19 : Nat → Int32) (pf20 : Nat → Int32) (pg21 : Nat) (pg22 : Nat) (pg23 : Nat) (pg24 : Nat) (pg25 : Nat) (pf26 : Nat → Int32) (px27 : Int32) (px28 : Int32) (px29 : Int32) (px30 : Int32) (px31 : Int32) (px32 : Int32) : Int32 → (Unit) → Prop := (fun (r : Int32) (u : Unit) => (r = 0 ∧ (((((px27 < 0) ∨ (¬ px27 < 0 ∧ 4 ≤ px27) ∨ (¬ px27 < 0 ∧ ¬ 4 ≤ px27 ∧ px28 < 0) ∨ (¬ px27 < 0 ∧ ¬ 4 ≤ px27 ∧ ¬ px28 < 0 ∧ 4 ≤ px28))) ∨ (¬ px27 < 0 ∧ ¬ 4 ≤ px27 ∧ ¬ px28 < 0 ∧ ¬ 4 ≤ px28 ∧ ((px29 < 0) ∨ (¬ px29 < 0 ∧ 4 ≤ px29) ∨ (¬ px29 < 0 ∧ ¬ 4 ≤ px29 ∧ px30 < 0) ∨ (¬ px29 < 0 ∧ ¬ 4 ≤ px29 ∧ ¬ px30 < 0 ∧ 4 ≤ px30))) ∨ (¬ px27 < 0 ∧ ¬ 4 ≤ px27 ∧ ¬ px28 < 0 ∧ ¬ 4 ≤ px28 ∧ ¬ px29 < 0 ∧ ¬ 4 ≤ px29 ∧ ¬ px30 < 0 ∧ ¬ 4 ≤ px30 ∧ px29 < px27) ∨ (¬ px27 < 0 ∧ ¬ 4 ≤ px27 ∧ ¬ px28 < 0 ∧ ¬ 4 ≤ px28 ∧ ¬ px29 < 0 ∧ ¬ 4 ≤ px29 ∧ ¬ px30 < 0 ∧ ¬ 4 ≤ px30 ∧ ¬ px29 < px27 ∧ px28 ≤ px30 ∧ px31 < 0) ∨ (¬ px27 < 0 ∧ ¬ 4 ≤ px27 ∧ ¬ px28 < 0 ∧ ¬ 4 ≤ px28 ∧ ¬ px29 < 0 ∧ ¬ 4 ≤ px29 ∧ ¬ px30 < 0 ∧ ¬ 4 ≤ px30 ∧ ¬ px29 < px27 ∧ px28 ≤ px30 ∧ ¬ px31 < 0 ∧ 999 < px31) ∨ (¬ px27 < 0 ∧ ¬ 4 ≤ px27 ∧ ¬ px28 < 0 ∧ ¬ 4 ≤ px28 ∧ ¬ px29 < 0 ∧ ¬ 4 ≤ px29 ∧ ¬ px30 < 0 ∧ ¬ 4 ≤ px30 ∧ ¬ px29 < px27 ∧ px28 ≤ px30 ∧ ¬ px31 < 0 ∧ ¬ 999 < px31 ∧ px32 < 0) ∨ (¬ px27 < 0 ∧ ¬ 4 ≤ px27 ∧ ¬ px28 < 0 ∧ ¬ 4 ≤ px28 ∧ ¬ px29 < 0 ∧ ¬ 4 ≤ px29 ∧ ¬ px30 < 0 ∧ ¬ 4 ≤ px30 ∧ ¬ px29 < px27 ∧ px28 ≤ px30 ∧ ¬ px31 < 0 ∧ ¬ 999 < px31 ∧ ¬ px32 < 0 ∧ ¬ px32 < 4) ∨ (¬ px27 < 0 ∧ ¬ 4 ≤ px27 ∧ ¬ px28 < 0 ∧ ¬ 4 ≤ px28 ∧ ¬ px29 < 0 ∧ ¬ 4 ≤ px29 ∧ ¬ px30 < 0 ∧ ¬ 4 ≤ px30 ∧ ¬ px29 < px27 ∧ ¬ px28 ≤ px30)))) ∨ (r = 1 ∧ (¬ px27 < 0 ∧ ¬ 4 ≤ px27 ∧ ¬ px28 < 0 ∧ ¬ 4 ≤ px28 ∧ ¬ px29 < 0 ∧ ¬ 4 ≤ px29 ∧ ¬ px30 < 0 ∧ ¬ 4 ≤ px30 ∧ ¬ px29 < px27 ∧ px28 ≤ px30 ∧ ¬ px31 < 0 ∧ ¬ 999 < px31 ∧ ¬ px32 < 0 ∧ px32 < 4)))
def vkX11_ground_35 (K : Nat → ClassId) (ph0 : Nat) (ph1 : Nat) (ph2 : Nat) (ph3 : Nat) (ph4 : Nat) (ph5 : Nat) (pg6 : Nat) (pg7 : Nat) (pg8 : Nat) (pg9 : Nat) (pg10 : Nat) (pg11 : Nat) (pg12 : Nat) (pg13 : Nat) (pg14 : Nat) (pg15 : Nat) (pg16 : Nat) (pg17 : Nat) (pg18 : Nat) (pf19 : Nat → Int32) (pf20 : Nat → Int32) (pg21 : Nat) (pg22 : Nat) (pg23 : Nat) (pg24 : Nat) (pg25 : Nat) (pf26 : Nat → Int32) (px27 : Int32) (px28 : Int32) (px29 : Int32) (px30 : Int32) (px31 : Int32) (px32 : Int32) : (Unit) → va_W := (fun (u : Unit) => [])
set_option maxHeartbeats 4000000 in
set_option maxRecDepth 100000 in
theorem kX11_ground_35 (l : Launch) (D : va_G) (K : Nat → ClassId) (sz : Nat) (ph0 : Nat) (ph1 : Nat) (ph2 : Nat) (ph3 : Nat) (ph4 : Nat) (ph5 : Nat) (pg6 : Nat) (pg7 : Nat) (pg8 : Nat) (pg9 : Nat) (pg10 : Nat) (pg11 : Nat) (pg12 : Nat) (pg13 : Nat) (pg14 : Nat) (pg15 : Nat) (pg16 : Nat) (pg17 : Nat) (pg18 : Nat) (pf19 : Nat → Int32) (pf20 : Nat → Int32) (pg21 : Nat) (pg22 : Nat) (pg23 : Nat) (pg24 : Nat) (pg25 : Nat) (pf26 : Nat → Int32) (px27 : Int32) (px28 : Int32) (px29 : Int32) (px30 : Int32) (px31 : Int32) (px32 : Int32) (hbpf26 : ∀ k, pf26 k = 0 ∨ pf26 k = 1) : uMi l yX11_ground cX11_ground 7 (some .boolean) { frames := 2, cells := 0, slots := 0, locals := 50 } [.ref ph0, .int px27, .int px28, .int px29, .int px30, .int px31, .int px32] D K [(ph0, .inr (11, [.ref ph1, .ref pg6, .ref pg7, .ref pg8, .ref pg9, .ref pg10, .ref pg11, .ref pg12, .ref pg13, .ref ph4, .ref pg14])), (ph1, .inr (9, [.ref ph2, .ref ph3, .ref pg15, .ref pg16, .ref pg17, .ref pg18, .int 4, .int 4, .int 0])), (ph2, .inl (K 0, 256, .inl pf19)), (ph3, .inl (K 0, 256, .inl pf20)), (ph4, .inr (0, [.ref ph1, .ref pg6, .ref pg21, .ref ph5, .ref pg22, .ref pg23, .ref pg24, .ref pg25, .int 0])), (ph5, .inl (K 1, 12, .inl pf26))] sz (qkX11_ground_35 ph0 ph1 ph2 ph3 ph4 ph5 pg6 pg7 pg8 pg9 pg10 pg11 pg12 pg13 pg14 pg15 pg16 pg17 pg18 pf19 pf20 pg21 pg22 pg23 pg24 pg25 pf26 px27 px28 px29 px30 px31 px32) (vkX11_ground_35 K ph0 ph1 ph2 ph3 ph4 ph5 pg6 pg7 pg8 pg9 pg10 pg11 pg12 pg13 pg14 pg15 pg16 pg17 pg18 pf19 pf20 pg21 pg22 pg23 pg24 pg25 pf26 px27 px28 px29 px30 px31 px32) := by
  refine uMet (Qc := uQi D (qkX11_ground_35 ph0 ph1 ph2 ph3 ph4 ph5 pg6 pg7 pg8 pg9 pg10 pg11 pg12 pg13 pg14 pg15 pg16 pg17 pg18 pf19 pf20 pg21 pg22 pg23 pg24 pg25 pf26 px27 px28 px29 px30 px31 px32) (vkX11_ground_35 K ph0 ph1 ph2 ph3 ph4 ph5 pg6 pg7 pg8 pg9 pg10 pg11 pg12 pg13 pg14 pg15 pg16 pg17 pg18 pf19 pf20 pg21 pg22 pg23 pg24 pg25 pf26 px27 px28 px29 px30 px31 px32)) (ret := (some .boolean)) (by decide) (Nat.le_of_ble_eq_true rfl) ?_
  intro p e s m below meth c A ls hAe hsz B hP hD hS hl
  have hx := B.1
  have hb := B.2.1
  have hl : lv_has ls 7 [(0, .ref ph0), (1, .int px27), (2, .int px28), (3, .int px29), (4, .int px30), (5, .int px31), (6, .int px32)] := hl
  refine lv_aload_n hx hb dX11_ground_0 rfl (lv_at hl 0 rfl) ?_
  refine uGet (ci := 11) (C := RX11) (T := TX11) (N := 11) (v := .ref ph1) B inlX11 hP 0 rfl rfl 0 rfl mfl_X11_10 rfl rfl dX11_ground_1 ?_
  refine lv_iload_n hx hb dX11_ground_4 rfl (lv_at hl 1 rfl) ?_
  refine lv_iload_n hx hb dX11_ground_5 rfl (lv_at hl 2 rfl) ?_
  refine lv_iload_n hx hb dX11_ground_6 rfl (lv_at hl 3 rfl) ?_
  refine lv_pc (q := 7) rfl ?_
  refine lv_iload hx hb dX11_ground_7 (lv_at hl 4 rfl) ?_
  refine lv_iload hx hb dX11_ground_9 (lv_at hl 5 rfl) ?_
  refine lv_iload hx hb dX11_ground_11 (lv_at hl 6 rfl) ?_
  refine uVi (As := [.int px27, .int px28, .int px29, .int px30, .int px31, .int px32]) (rest := []) (wr := [(ph0, .inr (11, [.ref ph1, .ref pg6, .ref pg7, .ref pg8, .ref pg9, .ref pg10, .ref pg11, .ref pg12, .ref pg13, .ref ph4, .ref pg14])), (ph4, .inr (0, [.ref ph1, .ref pg6, .ref pg21, .ref ph5, .ref pg22, .ref pg23, .ref pg24, .ref pg25, .int 0])), (ph5, .inl (K 1, 12, .inl pf26))]) [(ph1, .inr (9, [.ref ph2, .ref ph3, .ref pg15, .ref pg16, .ref pg17, .ref pg18, .int 4, .int 4, .int 0])), (ph2, .inl (K 0, 256, .inl pf19)), (ph3, .inl (K 0, 256, .inl pf20))] B hl.1 hP hD hS [1, 2, 3] [0, 4, 5] rfl rfl rfl (kX9_lay_34 l D K _ ph1 ph2 ph3 pg15 pg16 pg17 pg18 pf19 pf20 px27 px28 px29 px30 px31 px32) wd_X9_lay mml_X11_115 rfl rfl rfl rfl ⟨Nat.le_of_ble_eq_true rfl, Nat.le_of_ble_eq_true rfl⟩ (Nat.le_of_ble_eq_true rfl) ⟨Nat.le_of_ble_eq_true rfl, Nat.le_of_ble_eq_true rfl⟩ dX11_ground_13 (fun r1 u H locs hw hP hD hS => ?_)
  obtain ⟨u2, u3⟩ := u
  try dsimp only at hw
  rcases hw with ⟨rfl, w4⟩ | ⟨rfl, ⟨w5, w6, w7, w8, w9, w10, w11, w12, w13, w14, w15, w16, w17, w18⟩⟩
  · have hP : va_P D vwCl [(ph0, .inr (11, [.ref ph1, .ref pg6, .ref pg7, .ref pg8, .ref pg9, .ref pg10, .ref pg11, .ref pg12, .ref pg13, .ref ph4, .ref pg14])), (ph4, .inr (0, [.ref ph1, .ref pg6, .ref pg21, .ref ph5, .ref pg22, .ref pg23, .ref pg24, .ref pg25, .int 0])), (ph5, .inl (K 1, 12, .inl pf26)), (ph1, .inr (9, [.ref ph2, .ref ph3, .ref pg15, .ref pg16, .ref pg17, .ref pg18, .int 4, .int 4, .int 0])), (ph2, .inl (K 0, 256, .inl u2)), (ph3, .inl (K 0, 256, .inl u3))] H := hP
    have hD : va_D A [(ph0, .inr (11, [.ref ph1, .ref pg6, .ref pg7, .ref pg8, .ref pg9, .ref pg10, .ref pg11, .ref pg12, .ref pg13, .ref ph4, .ref pg14])), (ph4, .inr (0, [.ref ph1, .ref pg6, .ref pg21, .ref ph5, .ref pg22, .ref pg23, .ref pg24, .ref pg25, .int 0])), (ph5, .inl (K 1, 12, .inl pf26)), (ph1, .inr (9, [.ref ph2, .ref ph3, .ref pg15, .ref pg16, .ref pg17, .ref pg18, .int 4, .int 4, .int 0])), (ph2, .inl (K 0, 256, .inl u2)), (ph3, .inl (K 0, 256, .inl u3))] := hD
    refine lv_if_ne (tgt := 21) hx hb dX11_ground_16 (by decide) (fun h9 => absurd (by decide) h9) (fun _ => ?_)
    refine lv_iconst (v := 0) hx hb dX11_ground_19 (by decide) ?_
    refine lv_pc (q := 20) rfl ?_
    exact uRz () B rfl (Or.inl ⟨rfl, w4⟩) (uSub hP [] rfl) (hD.sub [] rfl rfl) hS dX11_ground_20
  have hP : va_P D vwCl [(ph0, .inr (11, [.ref ph1, .ref pg6, .ref pg7, .ref pg8, .ref pg9, .ref pg10, .ref pg11, .ref pg12, .ref pg13, .ref ph4, .ref pg14])), (ph4, .inr (0, [.ref ph1, .ref pg6, .ref pg21, .ref ph5, .ref pg22, .ref pg23, .ref pg24, .ref pg25, .int 0])), (ph5, .inl (K 1, 12, .inl pf26)), (ph1, .inr (9, [.ref ph2, .ref ph3, .ref pg15, .ref pg16, .ref pg17, .ref pg18, .int 4, .int 4, .int 0])), (ph2, .inl (K 0, 256, .inl u2)), (ph3, .inl (K 0, 256, .inl u3))] H := hP
  have hD : va_D A [(ph0, .inr (11, [.ref ph1, .ref pg6, .ref pg7, .ref pg8, .ref pg9, .ref pg10, .ref pg11, .ref pg12, .ref pg13, .ref ph4, .ref pg14])), (ph4, .inr (0, [.ref ph1, .ref pg6, .ref pg21, .ref ph5, .ref pg22, .ref pg23, .ref pg24, .ref pg25, .int 0])), (ph5, .inl (K 1, 12, .inl pf26)), (ph1, .inr (9, [.ref ph2, .ref ph3, .ref pg15, .ref pg16, .ref pg17, .ref pg18, .int 4, .int 4, .int 0])), (ph2, .inl (K 0, 256, .inl u2)), (ph3, .inl (K 0, 256, .inl u3))] := hD
  refine lv_if_ne (tgt := 21) hx hb dX11_ground_16 (by decide) (fun _ => ?_) (fun h9 => absurd h9 (by decide))
  refine lv_aload_n hx hb dX11_ground_21 rfl (lv_at hl 0 rfl) ?_
  refine lv_pc (q := 22) rfl ?_
  refine uGet (ci := 11) (C := RX11) (T := TX11) (N := 11) (v := .ref ph4) B inlX11 hP 0 rfl rfl 9 rfl mfl_X11_92 rfl rfl dX11_ground_22 ?_
  refine uVv (As := []) (rest := []) (wr := [(ph0, .inr (11, [.ref ph1, .ref pg6, .ref pg7, .ref pg8, .ref pg9, .ref pg10, .ref pg11, .ref pg12, .ref pg13, .ref ph4, .ref pg14])), (ph1, .inr (9, [.ref ph2, .ref ph3, .ref pg15, .ref pg16, .ref pg17, .ref pg18, .int 4, .int 4, .int 0])), (ph2, .inl (K 0, 256, .inl u2)), (ph3, .inl (K 0, 256, .inl u3))]) [(ph4, .inr (0, [.ref ph1, .ref pg6, .ref pg21, .ref ph5, .ref pg22, .ref pg23, .ref pg24, .ref pg25, .int 0])), (ph5, .inl (K 1, 12, .inl pf26))] B hl.1 hP hD hS [1, 2] [0, 3, 4, 5] rfl rfl rfl (kX0_forgetWays_29 l D K _ ph4 ph5 ph1 pg6 pg21 pg22 pg23 pg24 pg25 pf26 hbpf26) wd_X0_forgetWays mml_X11_112 rfl rfl rfl rfl ⟨Nat.le_of_ble_eq_true rfl, Nat.le_of_ble_eq_true rfl⟩ (Nat.le_of_ble_eq_true rfl) ⟨Nat.le_of_ble_eq_true rfl, Nat.le_of_ble_eq_true rfl⟩ dX11_ground_25 (fun u H locs hw hP hD hS => ?_)
  obtain ⟨u20, e9⟩ : ∃ y, y = u := ⟨_, rfl⟩
  subst e9
  try dsimp only at hw
  have hP : va_P D vwCl [(ph0, .inr (11, [.ref ph1, .ref pg6, .ref pg7, .ref pg8, .ref pg9, .ref pg10, .ref pg11, .ref pg12, .ref pg13, .ref ph4, .ref pg14])), (ph1, .inr (9, [.ref ph2, .ref ph3, .ref pg15, .ref pg16, .ref pg17, .ref pg18, .int 4, .int 4, .int 0])), (ph2, .inl (K 0, 256, .inl u2)), (ph3, .inl (K 0, 256, .inl u3)), (ph4, .inr (0, [.ref ph1, .ref pg6, .ref pg21, .ref ph5, .ref pg22, .ref pg23, .ref pg24, .ref pg25, .int 0])), (ph5, .inl (K 1, 12, .inl u20))] H := hP
  have hD : va_D A [(ph0, .inr (11, [.ref ph1, .ref pg6, .ref pg7, .ref pg8, .ref pg9, .ref pg10, .ref pg11, .ref pg12, .ref pg13, .ref ph4, .ref pg14])), (ph1, .inr (9, [.ref ph2, .ref ph3, .ref pg15, .ref pg16, .ref pg17, .ref pg18, .int 4, .int 4, .int 0])), (ph2, .inl (K 0, 256, .inl u2)), (ph3, .inl (K 0, 256, .inl u3)), (ph4, .inr (0, [.ref ph1, .ref pg6, .ref pg21, .ref ph5, .ref pg22, .ref pg23, .ref pg24, .ref pg25, .int 0])), (ph5, .inl (K 1, 12, .inl u20))] := hD
  refine lv_iconst (v := 1) hx hb dX11_ground_28 (by decide) ?_
  exact uRz () B rfl (Or.inr ⟨rfl, ⟨w5, w6, w7, w8, w9, w10, w11, w12, w13, w14, w15, w16, w17, w18⟩⟩) (uSub hP [] rfl) (hD.sub [] rfl rfl) hS dX11_ground_29
def qkX12_ground_36 (ph0 : Nat) (ph1 : Nat) (ph2 : Nat) (pg3 : Nat) (pg4 : Nat) (pg5 : Nat) (pg6 : Nat) (pg7 : Nat) (pg8 : Nat) (pg9 : Nat) (pg10 : Nat) (pg11 : Nat) (pg12 : Nat) (pg13 : Nat) (pg14 : Nat) (pg15 : Nat) (pg16 : Nat) (pg17 : Nat) (pg18 : Nat) (pg19 : Nat) (pg20 : Nat) (pg21 : Nat) (pg22 : Nat) (pg23 : Nat) (pg24 : Nat) (pg25 : Nat) (pg26 : Nat) (pg27 : Nat) (pg28 : Nat) (pg29 : Nat) (pg30 : Nat) (pg31 : Nat) (pg32 : Nat) (pg33 : Nat) (pg34 : Nat) (pg35 : Nat) (pg36 : Nat) (pg37 : Nat) (pg38 : Nat) (pg39 : Nat) (pg40 : Nat) (pg41 : Nat) (pg42 : Nat) (pg43 : Nat) (pg44 : Nat) (pg45 : Nat) (pg46 : Nat) (pg47 : Nat) (pg48 : Nat) (pg49 : Nat) (pg50 : Nat) (pg51 : Nat) (pg52 : Nat) (pg53 : Nat) (pg54 : Nat) (pg55 : Nat) (pg56 : Nat) (pg57 : Nat) (pg58 : Nat) (pg59 : Nat) (pg60 : Nat) (pg61 : Nat) (pg62 : Nat) (pg63 : Nat) (pg64 : Nat) (pg65 : Nat) (pg66 : Nat) (pf67 : Nat → Int32) (pf68 : Nat → Int32) (px69 : Int32) (px70 : Int32) (px71 : Int32) (px72 : Int32) (px73 : Int32) (px74 : Int32) : Int32 → (Unit) → Prop := (fun (r : Int32) (u : Unit) => (r = 0 ∧ ((px69 < 0) ∨ (¬ px69 < 0 ∧ px71 < px69) ∨ (¬ px69 < 0 ∧ ¬ px71 < px69 ∧ 4 ≤ px71) ∨ (¬ px69 < 0 ∧ ¬ px71 < px69 ∧ ¬ 4 ≤ px71 ∧ px70 < 0) ∨ (¬ px69 < 0 ∧ ¬ px71 < px69 ∧ ¬ 4 ≤ px71 ∧ ¬ px70 < 0 ∧ px72 < px70) ∨ (¬ px69 < 0 ∧ ¬ px71 < px69 ∧ ¬ 4 ≤ px71 ∧ ¬ px70 < 0 ∧ ¬ px72 < px70 ∧ 4 ≤ px72) ∨ (¬ px69 < 0 ∧ ¬ px71 < px69 ∧ ¬ 4 ≤ px71 ∧ ¬ px70 < 0 ∧ ¬ px72 < px70 ∧ ¬ 4 ≤ px72 ∧ px73 < 0) ∨ (¬ px69 < 0 ∧ ¬ px71 < px69 ∧ ¬ 4 ≤ px71 ∧ ¬ px70 < 0 ∧ ¬ px72 < px70 ∧ ¬ 4 ≤ px72 ∧ ¬ px73 < 0 ∧ 999 < px73) ∨ (¬ px69 < 0 ∧ ¬ px71 < px69 ∧ ¬ 4 ≤ px71 ∧ ¬ px70 < 0 ∧ ¬ px72 < px70 ∧ ¬ 4 ≤ px72 ∧ ¬ px73 < 0 ∧ ¬ 999 < px73 ∧ px74 < 0) ∨ (¬ px69 < 0 ∧ ¬ px71 < px69 ∧ ¬ 4 ≤ px71 ∧ ¬ px70 < 0 ∧ ¬ px72 < px70 ∧ ¬ 4 ≤ px72 ∧ ¬ px73 < 0 ∧ ¬ 999 < px73 ∧ ¬ px74 < 0 ∧ ¬ px74 ≤ 3))) ∨ (r = 1 ∧ (¬ px69 < 0 ∧ ¬ px71 < px69 ∧ ¬ 4 ≤ px71 ∧ ¬ px70 < 0 ∧ ¬ px72 < px70 ∧ ¬ 4 ≤ px72 ∧ ¬ px73 < 0 ∧ ¬ 999 < px73 ∧ ¬ px74 < 0 ∧ px74 ≤ 3)))
def vkX12_ground_36 (K : Nat → ClassId) (ph0 : Nat) (ph1 : Nat) (ph2 : Nat) (pg3 : Nat) (pg4 : Nat) (pg5 : Nat) (pg6 : Nat) (pg7 : Nat) (pg8 : Nat) (pg9 : Nat) (pg10 : Nat) (pg11 : Nat) (pg12 : Nat) (pg13 : Nat) (pg14 : Nat) (pg15 : Nat) (pg16 : Nat) (pg17 : Nat) (pg18 : Nat) (pg19 : Nat) (pg20 : Nat) (pg21 : Nat) (pg22 : Nat) (pg23 : Nat) (pg24 : Nat) (pg25 : Nat) (pg26 : Nat) (pg27 : Nat) (pg28 : Nat) (pg29 : Nat) (pg30 : Nat) (pg31 : Nat) (pg32 : Nat) (pg33 : Nat) (pg34 : Nat) (pg35 : Nat) (pg36 : Nat) (pg37 : Nat) (pg38 : Nat) (pg39 : Nat) (pg40 : Nat) (pg41 : Nat) (pg42 : Nat) (pg43 : Nat) (pg44 : Nat) (pg45 : Nat) (pg46 : Nat) (pg47 : Nat) (pg48 : Nat) (pg49 : Nat) (pg50 : Nat) (pg51 : Nat) (pg52 : Nat) (pg53 : Nat) (pg54 : Nat) (pg55 : Nat) (pg56 : Nat) (pg57 : Nat) (pg58 : Nat) (pg59 : Nat) (pg60 : Nat) (pg61 : Nat) (pg62 : Nat) (pg63 : Nat) (pg64 : Nat) (pg65 : Nat) (pg66 : Nat) (pf67 : Nat → Int32) (pf68 : Nat → Int32) (px69 : Int32) (px70 : Int32) (px71 : Int32) (px72 : Int32) (px73 : Int32) (px74 : Int32) : (Unit) → va_W := (fun (u : Unit) => [])
set_option maxHeartbeats 4000000 in
set_option maxRecDepth 100000 in
theorem kX12_ground_36 (l : Launch) (D : va_G) (K : Nat → ClassId) (sz : Nat) (ph0 : Nat) (ph1 : Nat) (ph2 : Nat) (pg3 : Nat) (pg4 : Nat) (pg5 : Nat) (pg6 : Nat) (pg7 : Nat) (pg8 : Nat) (pg9 : Nat) (pg10 : Nat) (pg11 : Nat) (pg12 : Nat) (pg13 : Nat) (pg14 : Nat) (pg15 : Nat) (pg16 : Nat) (pg17 : Nat) (pg18 : Nat) (pg19 : Nat) (pg20 : Nat) (pg21 : Nat) (pg22 : Nat) (pg23 : Nat) (pg24 : Nat) (pg25 : Nat) (pg26 : Nat) (pg27 : Nat) (pg28 : Nat) (pg29 : Nat) (pg30 : Nat) (pg31 : Nat) (pg32 : Nat) (pg33 : Nat) (pg34 : Nat) (pg35 : Nat) (pg36 : Nat) (pg37 : Nat) (pg38 : Nat) (pg39 : Nat) (pg40 : Nat) (pg41 : Nat) (pg42 : Nat) (pg43 : Nat) (pg44 : Nat) (pg45 : Nat) (pg46 : Nat) (pg47 : Nat) (pg48 : Nat) (pg49 : Nat) (pg50 : Nat) (pg51 : Nat) (pg52 : Nat) (pg53 : Nat) (pg54 : Nat) (pg55 : Nat) (pg56 : Nat) (pg57 : Nat) (pg58 : Nat) (pg59 : Nat) (pg60 : Nat) (pg61 : Nat) (pg62 : Nat) (pg63 : Nat) (pg64 : Nat) (pg65 : Nat) (pg66 : Nat) (pf67 : Nat → Int32) (pf68 : Nat → Int32) (px69 : Int32) (px70 : Int32) (px71 : Int32) (px72 : Int32) (px73 : Int32) (px74 : Int32) : uMi l yX12_ground cX12_ground 9 (some .boolean) { frames := 0, cells := 0, slots := 0, locals := 0 } [.ref ph0, .int px69, .int px70, .int px71, .int px72, .int px73, .int px74] D K [(ph0, .inr (12, [.int 0, .int 4, .int 4, .ref ph1, .ref ph2, .ref pg3, .ref pg4, .int 0, .ref pg5, .ref pg6, .int 0, .ref pg7, .ref pg8, .ref pg9, .ref pg10, .ref pg11, .ref pg12, .ref pg13, .int 0, .ref pg14, .ref pg15, .ref pg16, .ref pg17, .ref pg18, .ref pg19, .int 0, .ref pg20, .int 0, .int 0, .int 0, .ref pg21, .int 0, .int 0, .ref pg22, .int 0, .ref pg23, .ref pg24, .ref pg25, .ref pg26, .ref pg27, .ref pg28, .ref pg29, .ref pg30, .ref pg31, .ref pg32, .ref pg33, .ref pg34, .ref pg35, .ref pg36, .ref pg37, .ref pg38, .ref pg39, .ref pg40, .ref pg41, .ref pg42, .ref pg43, .ref pg44, .ref pg45, .int 0, .int 0, .int 0, .int 0, .int 0, .long 0, .int 0, .int 0, .int 0, .int 0, .int 0, .int (-1), .int 0, .ref pg46, .ref pg47, .ref pg48, .ref pg49, .ref pg50, .int 0, .int 0, .ref pg51, .ref pg52, .ref pg53, .ref pg54, .ref pg55, .ref pg56, .ref pg57, .ref pg58, .int 0, .int 0, .int 0, .int 0, .ref pg59, .ref pg60, .int 0, .ref pg61, .ref pg62, .ref pg63, .ref pg64, .ref pg65, .ref pg66])), (ph1, .inl (K 0, 256, .inl pf67)), (ph2, .inl (K 0, 256, .inl pf68))] sz (qkX12_ground_36 ph0 ph1 ph2 pg3 pg4 pg5 pg6 pg7 pg8 pg9 pg10 pg11 pg12 pg13 pg14 pg15 pg16 pg17 pg18 pg19 pg20 pg21 pg22 pg23 pg24 pg25 pg26 pg27 pg28 pg29 pg30 pg31 pg32 pg33 pg34 pg35 pg36 pg37 pg38 pg39 pg40 pg41 pg42 pg43 pg44 pg45 pg46 pg47 pg48 pg49 pg50 pg51 pg52 pg53 pg54 pg55 pg56 pg57 pg58 pg59 pg60 pg61 pg62 pg63 pg64 pg65 pg66 pf67 pf68 px69 px70 px71 px72 px73 px74) (vkX12_ground_36 K ph0 ph1 ph2 pg3 pg4 pg5 pg6 pg7 pg8 pg9 pg10 pg11 pg12 pg13 pg14 pg15 pg16 pg17 pg18 pg19 pg20 pg21 pg22 pg23 pg24 pg25 pg26 pg27 pg28 pg29 pg30 pg31 pg32 pg33 pg34 pg35 pg36 pg37 pg38 pg39 pg40 pg41 pg42 pg43 pg44 pg45 pg46 pg47 pg48 pg49 pg50 pg51 pg52 pg53 pg54 pg55 pg56 pg57 pg58 pg59 pg60 pg61 pg62 pg63 pg64 pg65 pg66 pf67 pf68 px69 px70 px71 px72 px73 px74) := by
  refine uMet (Qc := uQi D (qkX12_ground_36 ph0 ph1 ph2 pg3 pg4 pg5 pg6 pg7 pg8 pg9 pg10 pg11 pg12 pg13 pg14 pg15 pg16 pg17 pg18 pg19 pg20 pg21 pg22 pg23 pg24 pg25 pg26 pg27 pg28 pg29 pg30 pg31 pg32 pg33 pg34 pg35 pg36 pg37 pg38 pg39 pg40 pg41 pg42 pg43 pg44 pg45 pg46 pg47 pg48 pg49 pg50 pg51 pg52 pg53 pg54 pg55 pg56 pg57 pg58 pg59 pg60 pg61 pg62 pg63 pg64 pg65 pg66 pf67 pf68 px69 px70 px71 px72 px73 px74) (vkX12_ground_36 K ph0 ph1 ph2 pg3 pg4 pg5 pg6 pg7 pg8 pg9 pg10 pg11 pg12 pg13 pg14 pg15 pg16 pg17 pg18 pg19 pg20 pg21 pg22 pg23 pg24 pg25 pg26 pg27 pg28 pg29 pg30 pg31 pg32 pg33 pg34 pg35 pg36 pg37 pg38 pg39 pg40 pg41 pg42 pg43 pg44 pg45 pg46 pg47 pg48 pg49 pg50 pg51 pg52 pg53 pg54 pg55 pg56 pg57 pg58 pg59 pg60 pg61 pg62 pg63 pg64 pg65 pg66 pf67 pf68 px69 px70 px71 px72 px73 px74)) (ret := (some .boolean)) (by decide) (Nat.le_of_ble_eq_true rfl) ?_
  intro p e s m below meth c A ls hAe hsz B hP hD hS hl
  have hx := B.1
  have hb := B.2.1
  have hl : lv_has ls 9 [(0, .ref ph0), (1, .int px69), (2, .int px70), (3, .int px71), (4, .int px72), (5, .int px73), (6, .int px74)] := hl
  refine lv_aload_n hx hb dX12_ground_0 rfl (lv_at hl 0 rfl) ?_
  refine lv_iconst (v := 0) hx hb dX12_ground_1 (by decide) ?_
  refine uPut (ci := 12) (C := RX12) (T := TX12) (N := 99) (ws' := [(ph0, .inr (12, [.int 0, .int 4, .int 4, .ref ph1, .ref ph2, .ref pg3, .ref pg4, .int 0, .ref pg5, .ref pg6, .int 0, .ref pg7, .ref pg8, .ref pg9, .ref pg10, .ref pg11, .ref pg12, .ref pg13, .int 0, .ref pg14, .ref pg15, .ref pg16, .ref pg17, .ref pg18, .ref pg19, .int 0, .ref pg20, .int 0, .int 0, .int 0, .ref pg21, .int 0, .int 0, .ref pg22, .int 0, .ref pg23, .ref pg24, .ref pg25, .ref pg26, .ref pg27, .ref pg28, .ref pg29, .ref pg30, .ref pg31, .ref pg32, .ref pg33, .ref pg34, .ref pg35, .ref pg36, .ref pg37, .ref pg38, .ref pg39, .ref pg40, .ref pg41, .ref pg42, .ref pg43, .ref pg44, .ref pg45, .int 0, .int 0, .int 0, .int 0, .int 0, .long 0, .int 0, .int 0, .int 0, .int 0, .int 0, .int (-1), .int 0, .ref pg46, .ref pg47, .ref pg48, .ref pg49, .ref pg50, .int 0, .int 0, .ref pg51, .ref pg52, .ref pg53, .ref pg54, .ref pg55, .ref pg56, .ref pg57, .ref pg58, .int 0, .int 0, .int 0, .int 0, .ref pg59, .ref pg60, .int 0, .ref pg61, .ref pg62, .ref pg63, .ref pg64, .ref pg65, .ref pg66])), (ph1, .inl (K 0, 256, .inl pf67)), (ph2, .inl (K 0, 256, .inl pf68))]) B inlX12 tyX12_ok nmX12 hP hD hS 0 rfl rfl 0 rfl mfl_X12_224 rfl rfl rfl rfl rfl rfl dX12_ground_2 (fun H locs hP hD hS => ?_)
  refine lv_iload_n hx hb dX12_ground_5 rfl (lv_at hl 1 rfl) ?_
  refine lv_if_lt (tgt := 65) hx hb dX12_ground_6 (by decide) (fun c1 => ?_) (fun c1 => ?_)
  · refine lv_pc (q := 65) rfl ?_
    refine lv_iconst (v := 0) hx hb dX12_ground_65 (by decide) ?_
    exact uRz () B rfl (Or.inl ⟨rfl, Or.inl c1⟩) (uSub hP [] rfl) (hD.sub [] rfl rfl) hS dX12_ground_66
  refine lv_pc (q := 9) rfl ?_
  refine lv_iload_n hx hb dX12_ground_9 rfl (lv_at hl 1 rfl) ?_
  refine lv_iload_n hx hb dX12_ground_10 rfl (lv_at hl 3 rfl) ?_
  refine lv_icmp_gt (tgt := 65) hx hb dX12_ground_11 (by decide) (fun c2 => ?_) (fun c2 => ?_)
  · refine lv_iconst (v := 0) hx hb dX12_ground_65 (by decide) ?_
    exact uRz () B rfl (Or.inl ⟨rfl, Or.inr (Or.inl ⟨c1, c2⟩)⟩) (uSub hP [] rfl) (hD.sub [] rfl rfl) hS dX12_ground_66
  refine lv_iload_n hx hb dX12_ground_14 rfl (lv_at hl 3 rfl) ?_
  refine lv_aload_n hx hb dX12_ground_15 rfl (lv_at hl 0 rfl) ?_
  refine uGet (ci := 12) (C := RX12) (T := TX12) (N := 99) (v := .int 4) B inlX12 hP 0 rfl rfl 1 rfl mfl_X12_7 rfl rfl dX12_ground_16 ?_
  refine lv_pc (q := 19) rfl ?_
  refine lv_icmp_ge (tgt := 65) hx hb dX12_ground_19 (by decide) (fun c3 => ?_) (fun c3 => ?_)
  · refine lv_iconst (v := 0) hx hb dX12_ground_65 (by decide) ?_
    exact uRz () B rfl (Or.inl ⟨rfl, Or.inr (Or.inr (Or.inl ⟨c1, c2, c3⟩))⟩) (uSub hP [] rfl) (hD.sub [] rfl rfl) hS dX12_ground_66
  refine lv_iload_n hx hb dX12_ground_22 rfl (lv_at hl 2 rfl) ?_
  refine lv_if_lt (tgt := 65) hx hb dX12_ground_23 (by decide) (fun c4 => ?_) (fun c4 => ?_)
  · refine lv_iconst (v := 0) hx hb dX12_ground_65 (by decide) ?_
    exact uRz () B rfl (Or.inl ⟨rfl, Or.inr (Or.inr (Or.inr (Or.inl ⟨c1, c2, c3, c4⟩)))⟩) (uSub hP [] rfl) (hD.sub [] rfl rfl) hS dX12_ground_66
  refine lv_iload_n hx hb dX12_ground_26 rfl (lv_at hl 2 rfl) ?_
  refine lv_iload hx hb dX12_ground_27 (lv_at hl 4 rfl) ?_
  refine lv_icmp_gt (tgt := 65) hx hb dX12_ground_29 (by decide) (fun c5 => ?_) (fun c5 => ?_)
  · refine lv_pc (q := 65) rfl ?_
    refine lv_iconst (v := 0) hx hb dX12_ground_65 (by decide) ?_
    exact uRz () B rfl (Or.inl ⟨rfl, Or.inr (Or.inr (Or.inr (Or.inr (Or.inl ⟨c1, c2, c3, c4, c5⟩))))⟩) (uSub hP [] rfl) (hD.sub [] rfl rfl) hS dX12_ground_66
  refine lv_pc (q := 32) rfl ?_
  refine lv_iload hx hb dX12_ground_32 (lv_at hl 4 rfl) ?_
  refine lv_aload_n hx hb dX12_ground_34 rfl (lv_at hl 0 rfl) ?_
  refine uGet (ci := 12) (C := RX12) (T := TX12) (N := 99) (v := .int 4) B inlX12 hP 0 rfl rfl 2 rfl mfl_X12_13 rfl rfl dX12_ground_35 ?_
  refine lv_icmp_ge (tgt := 65) hx hb dX12_ground_38 (by decide) (fun c6 => ?_) (fun c6 => ?_)
  · refine lv_iconst (v := 0) hx hb dX12_ground_65 (by decide) ?_
    exact uRz () B rfl (Or.inl ⟨rfl, Or.inr (Or.inr (Or.inr (Or.inr (Or.inr (Or.inl ⟨c1, c2, c3, c4, c5, c6⟩)))))⟩) (uSub hP [] rfl) (hD.sub [] rfl rfl) hS dX12_ground_66
  refine lv_iload hx hb dX12_ground_41 (lv_at hl 5 rfl) ?_
  refine lv_if_lt (tgt := 65) hx hb dX12_ground_43 (by decide) (fun c7 => ?_) (fun c7 => ?_)
  · refine lv_pc (q := 65) rfl ?_
    refine lv_iconst (v := 0) hx hb dX12_ground_65 (by decide) ?_
    exact uRz () B rfl (Or.inl ⟨rfl, Or.inr (Or.inr (Or.inr (Or.inr (Or.inr (Or.inr (Or.inl ⟨c1, c2, c3, c4, c5, c6, c7⟩))))))⟩) (uSub hP [] rfl) (hD.sub [] rfl rfl) hS dX12_ground_66
  refine lv_pc (q := 46) rfl ?_
  refine lv_iload hx hb dX12_ground_46 (lv_at hl 5 rfl) ?_
  refine lv_sipush (v := 999) hx hb dX12_ground_48 (by decide) ?_
  refine lv_icmp_gt (tgt := 65) hx hb dX12_ground_51 (by decide) (fun c8 => ?_) (fun c8 => ?_)
  · refine lv_iconst (v := 0) hx hb dX12_ground_65 (by decide) ?_
    exact uRz () B rfl (Or.inl ⟨rfl, Or.inr (Or.inr (Or.inr (Or.inr (Or.inr (Or.inr (Or.inr (Or.inl ⟨c1, c2, c3, c4, c5, c6, c7, c8⟩)))))))⟩) (uSub hP [] rfl) (hD.sub [] rfl rfl) hS dX12_ground_66
  refine lv_iload hx hb dX12_ground_54 (lv_at hl 6 rfl) ?_
  refine lv_if_lt (tgt := 65) hx hb dX12_ground_56 (by decide) (fun c9 => ?_) (fun c9 => ?_)
  · refine lv_iconst (v := 0) hx hb dX12_ground_65 (by decide) ?_
    refine lv_pc (q := 66) rfl ?_
    exact uRz () B rfl (Or.inl ⟨rfl, Or.inr (Or.inr (Or.inr (Or.inr (Or.inr (Or.inr (Or.inr (Or.inr (Or.inl ⟨c1, c2, c3, c4, c5, c6, c7, c8, c9⟩))))))))⟩) (uSub hP [] rfl) (hD.sub [] rfl rfl) hS dX12_ground_66
  refine lv_iload hx hb dX12_ground_59 (lv_at hl 6 rfl) ?_
  refine lv_pc (q := 61) rfl ?_
  refine lv_iconst (v := 3) hx hb dX12_ground_61 (by decide) ?_
  refine lv_icmp_le (tgt := 67) hx hb dX12_ground_62 (by decide) (fun c10 => ?_) (fun c10 => ?_)
  · obtain ⟨a11, ha11, ea11⟩ : ∃ a : Nat, a < 4 ∧ px69 = nI a := uNat (by simp only [fa_lt, fa_le, fa_eq, Int32.reduceToInt] at c1 c2 c3 c4 c5 c6 c7 c8 c9 c10; omega) (by simp only [fa_lt, fa_le, fa_eq, Int32.reduceToInt] at c1 c2 c3 c4 c5 c6 c7 c8 c9 c10; omega) (by decide)
    obtain ⟨a12, ha12, ea12⟩ : ∃ a : Nat, a < 4 ∧ px70 = nI a := uNat (by simp only [fa_lt, fa_le, fa_eq, Int32.reduceToInt] at c1 c2 c3 c4 c5 c6 c7 c8 c9 c10; omega) (by simp only [fa_lt, fa_le, fa_eq, Int32.reduceToInt] at c1 c2 c3 c4 c5 c6 c7 c8 c9 c10; omega) (by decide)
    obtain ⟨a13, ha13, ea13⟩ : ∃ a : Nat, a < 4 ∧ px71 = nI a := uNat (by simp only [fa_lt, fa_le, fa_eq, Int32.reduceToInt] at c1 c2 c3 c4 c5 c6 c7 c8 c9 c10; omega) (by simp only [fa_lt, fa_le, fa_eq, Int32.reduceToInt] at c1 c2 c3 c4 c5 c6 c7 c8 c9 c10; omega) (by decide)
    obtain ⟨a14, ha14, ea14⟩ : ∃ a : Nat, a < 4 ∧ px72 = nI a := uNat (by simp only [fa_lt, fa_le, fa_eq, Int32.reduceToInt] at c1 c2 c3 c4 c5 c6 c7 c8 c9 c10; omega) (by simp only [fa_lt, fa_le, fa_eq, Int32.reduceToInt] at c1 c2 c3 c4 c5 c6 c7 c8 c9 c10; omega) (by decide)
    have o15 : a11 ≤ a13 := by simp only [fa_lt, fa_le] at c2; rw [ea11, ea13, nI_toInt (by omega), nI_toInt (by omega)] at c2; omega
    have o16 : a12 ≤ a14 := by simp only [fa_lt, fa_le] at c5; rw [ea12, ea14, nI_toInt (by omega), nI_toInt (by omega)] at c5; omega
    refine lv_iload_n hx hb dX12_ground_67 rfl (lv_at hl 2 rfl) ?_
    refine lv_fixi (y := (nI a12)) ea12 ?_
    refine lv_istore (lv' := [(7, .int (nI a12)), (0, .ref ph0), (1, .int px69), (2, .int px70), (3, .int px71), (4, .int px72), (5, .int px73), (6, .int px74)]) hx hb dX12_ground_68 hl (by decide) rfl (fun ls hl => ?_)
    have L21 : ∀ (n9 : Nat) (j17 : Nat) (f18 : Nat → Int32) (f19 : Nat → Int32), (j17 ≤ (a14 + 1)) → (a14 + 1) - j17 < n9 → ∀ (H : Heap) (locs : List Loc) (ls : Array Slot), va_P D vwCl [(ph0, .inr (12, [.int 0, .int 4, .int 4, .ref ph1, .ref ph2, .ref pg3, .ref pg4, .int 0, .ref pg5, .ref pg6, .int 0, .ref pg7, .ref pg8, .ref pg9, .ref pg10, .ref pg11, .ref pg12, .ref pg13, .int 0, .ref pg14, .ref pg15, .ref pg16, .ref pg17, .ref pg18, .ref pg19, .int 0, .ref pg20, .int 0, .int 0, .int 0, .ref pg21, .int 0, .int 0, .ref pg22, .int 0, .ref pg23, .ref pg24, .ref pg25, .ref pg26, .ref pg27, .ref pg28, .ref pg29, .ref pg30, .ref pg31, .ref pg32, .ref pg33, .ref pg34, .ref pg35, .ref pg36, .ref pg37, .ref pg38, .ref pg39, .ref pg40, .ref pg41, .ref pg42, .ref pg43, .ref pg44, .ref pg45, .int 0, .int 0, .int 0, .int 0, .int 0, .long 0, .int 0, .int 0, .int 0, .int 0, .int 0, .int (-1), .int 0, .ref pg46, .ref pg47, .ref pg48, .ref pg49, .ref pg50, .int 0, .int 0, .ref pg51, .ref pg52, .ref pg53, .ref pg54, .ref pg55, .ref pg56, .ref pg57, .ref pg58, .int 0, .int 0, .int 0, .int 0, .ref pg59, .ref pg60, .int 0, .ref pg61, .ref pg62, .ref pg63, .ref pg64, .ref pg65, .ref pg66])), (ph1, .inl (K 0, 256, .inl f18)), (ph2, .inl (K 0, 256, .inl f19))] H → va_D A [(ph0, .inr (12, [.int 0, .int 4, .int 4, .ref ph1, .ref ph2, .ref pg3, .ref pg4, .int 0, .ref pg5, .ref pg6, .int 0, .ref pg7, .ref pg8, .ref pg9, .ref pg10, .ref pg11, .ref pg12, .ref pg13, .int 0, .ref pg14, .ref pg15, .ref pg16, .ref pg17, .ref pg18, .ref pg19, .int 0, .ref pg20, .int 0, .int 0, .int 0, .ref pg21, .int 0, .int 0, .ref pg22, .int 0, .ref pg23, .ref pg24, .ref pg25, .ref pg26, .ref pg27, .ref pg28, .ref pg29, .ref pg30, .ref pg31, .ref pg32, .ref pg33, .ref pg34, .ref pg35, .ref pg36, .ref pg37, .ref pg38, .ref pg39, .ref pg40, .ref pg41, .ref pg42, .ref pg43, .ref pg44, .ref pg45, .int 0, .int 0, .int 0, .int 0, .int 0, .long 0, .int 0, .int 0, .int 0, .int 0, .int 0, .int (-1), .int 0, .ref pg46, .ref pg47, .ref pg48, .ref pg49, .ref pg50, .int 0, .int 0, .ref pg51, .ref pg52, .ref pg53, .ref pg54, .ref pg55, .ref pg56, .ref pg57, .ref pg58, .int 0, .int 0, .int 0, .int 0, .ref pg59, .ref pg60, .int 0, .ref pg61, .ref pg62, .ref pg63, .ref pg64, .ref pg65, .ref pg66])), (ph1, .inl (K 0, 256, .inl f18)), (ph2, .inl (K 0, 256, .inl f19))] → va_S A s.heap H locs → lv_has ls 9 [(7, .int (nI j17)), (0, .ref ph0), (1, .int px69), (2, .int px70), (3, .int px71), (4, .int px72), (5, .int px73), (6, .int px74)] → W p l e { frames := 0, cells := 0, slots := 0, locals := 0 } s m ([.ref ph0, .int px69, .int px70, .int px71, .int px72, .int px73, .int px74] : List Value).toArray below meth c H locs 0 0 (MQ below (uQi D (qkX12_ground_36 ph0 ph1 ph2 pg3 pg4 pg5 pg6 pg7 pg8 pg9 pg10 pg11 pg12 pg13 pg14 pg15 pg16 pg17 pg18 pg19 pg20 pg21 pg22 pg23 pg24 pg25 pg26 pg27 pg28 pg29 pg30 pg31 pg32 pg33 pg34 pg35 pg36 pg37 pg38 pg39 pg40 pg41 pg42 pg43 pg44 pg45 pg46 pg47 pg48 pg49 pg50 pg51 pg52 pg53 pg54 pg55 pg56 pg57 pg58 pg59 pg60 pg61 pg62 pg63 pg64 pg65 pg66 pf67 pf68 px69 px70 px71 px72 px73 px74) (vkX12_ground_36 K ph0 ph1 ph2 pg3 pg4 pg5 pg6 pg7 pg8 pg9 pg10 pg11 pg12 pg13 pg14 pg15 pg16 pg17 pg18 pg19 pg20 pg21 pg22 pg23 pg24 pg25 pg26 pg27 pg28 pg29 pg30 pg31 pg32 pg33 pg34 pg35 pg36 pg37 pg38 pg39 pg40 pg41 pg42 pg43 pg44 pg45 pg46 pg47 pg48 pg49 pg50 pg51 pg52 pg53 pg54 pg55 pg56 pg57 pg58 pg59 pg60 pg61 pg62 pg63 pg64 pg65 pg66 pf67 pf68 px69 px70 px71 px72 px73 px74) A) ([.ref ph0, .int px69, .int px70, .int px71, .int px72, .int px73, .int px74] : List Value).toArray s 0 0 A) (F0 m 70 ls []) := by
      intro n9
      induction n9 with
      | zero => intros; exact absurd ‹_ < 0› (Nat.not_lt_zero _)
      | succ n70_ ih70 =>
        intro j17 f18 f19 hj17 hm70 H locs ls hP hD hS hl
        refine lv_iload hx hb dX12_ground_70 (lv_at hl 0 rfl) ?_
        refine lv_iload hx hb dX12_ground_72 (lv_at hl 5 rfl) ?_
        refine lv_fixi (y := (nI a14)) ea14 ?_
        refine lv_pc (q := 74) rfl ?_
        refine lv_icmp_gt (tgt := 132) hx hb dX12_ground_74 (by decide) (fun c22 => ?_) (fun c22 => ?_)
        · have k_22 : a14 < j17 := (nI_ltI (a := a14) (b := j17) (by omega) (by omega)).mp c22
          refine lv_iconst (v := 1) hx hb dX12_ground_132 (by decide) ?_
          exact uRz () B rfl (Or.inr ⟨rfl, ⟨c1, c2, c3, c4, c5, c6, c7, c8, c9, c10⟩⟩) (uSub hP [] rfl) (hD.sub [] rfl rfl) hS dX12_ground_133
        have k_22 : ¬ a14 < j17 := fun h9 => c22 ((nI_ltI (a := a14) (b := j17) (by omega) (by omega)).mpr h9)
        refine lv_iload_n hx hb dX12_ground_77 rfl (lv_at hl 2 rfl) ?_
        refine lv_fixi (y := (nI a11)) ea11 ?_
        refine lv_istore (lv' := [(8, .int (nI a11)), (7, .int (nI j17)), (0, .ref ph0), (1, .int px69), (2, .int px70), (3, .int px71), (4, .int px72), (5, .int px73), (6, .int px74)]) hx hb dX12_ground_78 hl (by decide) rfl (fun ls hl => ?_)
        have L27 : ∀ (n9 : Nat) (j23 : Nat) (f24 : Nat → Int32) (f25 : Nat → Int32), (j23 ≤ (a13 + 1)) → (a13 + 1) - j23 < n9 → ∀ (H : Heap) (locs : List Loc) (ls : Array Slot), va_P D vwCl [(ph0, .inr (12, [.int 0, .int 4, .int 4, .ref ph1, .ref ph2, .ref pg3, .ref pg4, .int 0, .ref pg5, .ref pg6, .int 0, .ref pg7, .ref pg8, .ref pg9, .ref pg10, .ref pg11, .ref pg12, .ref pg13, .int 0, .ref pg14, .ref pg15, .ref pg16, .ref pg17, .ref pg18, .ref pg19, .int 0, .ref pg20, .int 0, .int 0, .int 0, .ref pg21, .int 0, .int 0, .ref pg22, .int 0, .ref pg23, .ref pg24, .ref pg25, .ref pg26, .ref pg27, .ref pg28, .ref pg29, .ref pg30, .ref pg31, .ref pg32, .ref pg33, .ref pg34, .ref pg35, .ref pg36, .ref pg37, .ref pg38, .ref pg39, .ref pg40, .ref pg41, .ref pg42, .ref pg43, .ref pg44, .ref pg45, .int 0, .int 0, .int 0, .int 0, .int 0, .long 0, .int 0, .int 0, .int 0, .int 0, .int 0, .int (-1), .int 0, .ref pg46, .ref pg47, .ref pg48, .ref pg49, .ref pg50, .int 0, .int 0, .ref pg51, .ref pg52, .ref pg53, .ref pg54, .ref pg55, .ref pg56, .ref pg57, .ref pg58, .int 0, .int 0, .int 0, .int 0, .ref pg59, .ref pg60, .int 0, .ref pg61, .ref pg62, .ref pg63, .ref pg64, .ref pg65, .ref pg66])), (ph1, .inl (K 0, 256, .inl f24)), (ph2, .inl (K 0, 256, .inl f25))] H → va_D A [(ph0, .inr (12, [.int 0, .int 4, .int 4, .ref ph1, .ref ph2, .ref pg3, .ref pg4, .int 0, .ref pg5, .ref pg6, .int 0, .ref pg7, .ref pg8, .ref pg9, .ref pg10, .ref pg11, .ref pg12, .ref pg13, .int 0, .ref pg14, .ref pg15, .ref pg16, .ref pg17, .ref pg18, .ref pg19, .int 0, .ref pg20, .int 0, .int 0, .int 0, .ref pg21, .int 0, .int 0, .ref pg22, .int 0, .ref pg23, .ref pg24, .ref pg25, .ref pg26, .ref pg27, .ref pg28, .ref pg29, .ref pg30, .ref pg31, .ref pg32, .ref pg33, .ref pg34, .ref pg35, .ref pg36, .ref pg37, .ref pg38, .ref pg39, .ref pg40, .ref pg41, .ref pg42, .ref pg43, .ref pg44, .ref pg45, .int 0, .int 0, .int 0, .int 0, .int 0, .long 0, .int 0, .int 0, .int 0, .int 0, .int 0, .int (-1), .int 0, .ref pg46, .ref pg47, .ref pg48, .ref pg49, .ref pg50, .int 0, .int 0, .ref pg51, .ref pg52, .ref pg53, .ref pg54, .ref pg55, .ref pg56, .ref pg57, .ref pg58, .int 0, .int 0, .int 0, .int 0, .ref pg59, .ref pg60, .int 0, .ref pg61, .ref pg62, .ref pg63, .ref pg64, .ref pg65, .ref pg66])), (ph1, .inl (K 0, 256, .inl f24)), (ph2, .inl (K 0, 256, .inl f25))] → va_S A s.heap H locs → lv_has ls 9 [(8, .int (nI j23)), (7, .int (nI j17)), (0, .ref ph0), (1, .int px69), (2, .int px70), (3, .int px71), (4, .int px72), (5, .int px73), (6, .int px74)] → W p l e { frames := 0, cells := 0, slots := 0, locals := 0 } s m ([.ref ph0, .int px69, .int px70, .int px71, .int px72, .int px73, .int px74] : List Value).toArray below meth c H locs 0 0 (MQ below (uQi D (qkX12_ground_36 ph0 ph1 ph2 pg3 pg4 pg5 pg6 pg7 pg8 pg9 pg10 pg11 pg12 pg13 pg14 pg15 pg16 pg17 pg18 pg19 pg20 pg21 pg22 pg23 pg24 pg25 pg26 pg27 pg28 pg29 pg30 pg31 pg32 pg33 pg34 pg35 pg36 pg37 pg38 pg39 pg40 pg41 pg42 pg43 pg44 pg45 pg46 pg47 pg48 pg49 pg50 pg51 pg52 pg53 pg54 pg55 pg56 pg57 pg58 pg59 pg60 pg61 pg62 pg63 pg64 pg65 pg66 pf67 pf68 px69 px70 px71 px72 px73 px74) (vkX12_ground_36 K ph0 ph1 ph2 pg3 pg4 pg5 pg6 pg7 pg8 pg9 pg10 pg11 pg12 pg13 pg14 pg15 pg16 pg17 pg18 pg19 pg20 pg21 pg22 pg23 pg24 pg25 pg26 pg27 pg28 pg29 pg30 pg31 pg32 pg33 pg34 pg35 pg36 pg37 pg38 pg39 pg40 pg41 pg42 pg43 pg44 pg45 pg46 pg47 pg48 pg49 pg50 pg51 pg52 pg53 pg54 pg55 pg56 pg57 pg58 pg59 pg60 pg61 pg62 pg63 pg64 pg65 pg66 pf67 pf68 px69 px70 px71 px72 px73 px74) A) ([.ref ph0, .int px69, .int px70, .int px71, .int px72, .int px73, .int px74] : List Value).toArray s 0 0 A) (F0 m 80 ls []) := by
          intro n9
          induction n9 with
          | zero => intros; exact absurd ‹_ < 0› (Nat.not_lt_zero _)
          | succ n80_ ih80 =>
            intro j23 f24 f25 hj23 hm80 H locs ls hP hD hS hl
            refine lv_iload hx hb dX12_ground_80 (lv_at hl 0 rfl) ?_
            refine lv_iload_n hx hb dX12_ground_82 rfl (lv_at hl 5 rfl) ?_
            refine lv_fixi (y := (nI a13)) ea13 ?_
            refine lv_icmp_gt (tgt := 126) hx hb dX12_ground_83 (by decide) (fun c28 => ?_) (fun c28 => ?_)
            · have k_28 : a13 < j23 := (nI_ltI (a := a13) (b := j23) (by omega) (by omega)).mp c28
              refine lv_pc (q := 126) rfl ?_
              refine lv_iinc (v := nI (j17 + 1)) (lv' := [(7, .int (nI (j17 + 1))), (8, .int (nI j23)), (0, .ref ph0), (1, .int px69), (2, .int px70), (3, .int px71), (4, .int px72), (5, .int px73), (6, .int px74)]) hx hb dX12_ground_126 hl (k := 1) rfl (nI_1 _) (by decide) rfl (fun ls hl => ?_)
              refine lv_goto (tgt := 70) hx hb dX12_ground_129 (by decide) ?_
              refine lv_pc (q := 70) rfl ?_
              refine W.widen (k := 0) (n := 0) (Nat.le_of_ble_eq_true rfl) (Nat.le_of_ble_eq_true rfl) ?_
              exact ih70 (j17 + 1) f24 f25 (by omega) (by omega) _ _ _ (uSub hP [0, 1, 2] rfl) (hD.sub [0, 1, 2] rfl rfl) hS (lv_sub hl [0, 2, 3, 4, 5, 6, 7, 8] rfl)
            have k_28 : ¬ a13 < j23 := fun h9 => c28 ((nI_ltI (a := a13) (b := j23) (by omega) (by omega)).mpr h9)
            refine lv_pc (q := 86) rfl ?_
            refine lv_aload_n hx hb dX12_ground_86 rfl (lv_at hl 2 rfl) ?_
            refine uGet (ci := 12) (C := RX12) (T := TX12) (N := 99) (v := .ref ph1) B inlX12 hP 0 rfl rfl 3 rfl mfl_X12_16 rfl rfl dX12_ground_87 ?_
            refine lv_aload_n hx hb dX12_ground_90 rfl (lv_at hl 2 rfl) ?_
            refine uGet (ci := 12) (C := RX12) (T := TX12) (N := 99) (v := .int 4) B inlX12 hP 0 rfl rfl 1 rfl mfl_X12_7 rfl rfl dX12_ground_91 ?_
            refine lv_iload hx hb dX12_ground_94 (lv_at hl 1 rfl) ?_
            refine lv_imul hx hb dX12_ground_96 ?_
            refine lv_fixi (y := (nI (4 * j17))) (by rw [show (4 : Int32) = nI 4 from rfl, pk_mul]) ?_
            refine lv_pc (q := 97) rfl ?_
            refine lv_iload hx hb dX12_ground_97 (lv_at hl 0 rfl) ?_
            refine lv_iadd hx hb dX12_ground_99 ?_
            refine lv_fixi (y := (nI ((4 * j17) + j23))) (by rw [nI_add]) ?_
            refine lv_iload hx hb dX12_ground_100 (lv_at hl 7 rfl) ?_
            refine uIast (i := (nI ((4 * j17) + j23))) (j := (4 * j17) + j23) (ws' := [(ph0, .inr (12, [.int 0, .int 4, .int 4, .ref ph1, .ref ph2, .ref pg3, .ref pg4, .int 0, .ref pg5, .ref pg6, .int 0, .ref pg7, .ref pg8, .ref pg9, .ref pg10, .ref pg11, .ref pg12, .ref pg13, .int 0, .ref pg14, .ref pg15, .ref pg16, .ref pg17, .ref pg18, .ref pg19, .int 0, .ref pg20, .int 0, .int 0, .int 0, .ref pg21, .int 0, .int 0, .ref pg22, .int 0, .ref pg23, .ref pg24, .ref pg25, .ref pg26, .ref pg27, .ref pg28, .ref pg29, .ref pg30, .ref pg31, .ref pg32, .ref pg33, .ref pg34, .ref pg35, .ref pg36, .ref pg37, .ref pg38, .ref pg39, .ref pg40, .ref pg41, .ref pg42, .ref pg43, .ref pg44, .ref pg45, .int 0, .int 0, .int 0, .int 0, .int 0, .long 0, .int 0, .int 0, .int 0, .int 0, .int 0, .int (-1), .int 0, .ref pg46, .ref pg47, .ref pg48, .ref pg49, .ref pg50, .int 0, .int 0, .ref pg51, .ref pg52, .ref pg53, .ref pg54, .ref pg55, .ref pg56, .ref pg57, .ref pg58, .int 0, .int 0, .int 0, .int 0, .ref pg59, .ref pg60, .int 0, .ref pg61, .ref pg62, .ref pg63, .ref pg64, .ref pg65, .ref pg66])), (ph1, .inl (K 0, 256, .inl (upd f24 ((4 * j17) + j23) px73))), (ph2, .inl (K 0, 256, .inl f25))]) B hP hD hS 1 rfl (nI_in (by omega) (by omega)) (nI_clamp (by omega)) rfl dX12_ground_102 (fun H locs hP hD hS => ?_)
            refine lv_aload_n hx hb dX12_ground_103 rfl (lv_at hl 2 rfl) ?_
            refine uGet (ci := 12) (C := RX12) (T := TX12) (N := 99) (v := .ref ph2) B inlX12 hP 0 rfl rfl 4 rfl mfl_X12_20 rfl rfl dX12_ground_104 ?_
            refine lv_pc (q := 107) rfl ?_
            refine lv_aload_n hx hb dX12_ground_107 rfl (lv_at hl 2 rfl) ?_
            refine uGet (ci := 12) (C := RX12) (T := TX12) (N := 99) (v := .int 4) B inlX12 hP 0 rfl rfl 1 rfl mfl_X12_7 rfl rfl dX12_ground_108 ?_
            refine lv_iload hx hb dX12_ground_111 (lv_at hl 1 rfl) ?_
            refine lv_imul hx hb dX12_ground_113 ?_
            refine lv_fixi (y := (nI (4 * j17))) (by rw [show (4 : Int32) = nI 4 from rfl, pk_mul]) ?_
            refine lv_iload hx hb dX12_ground_114 (lv_at hl 0 rfl) ?_
            refine lv_iadd hx hb dX12_ground_116 ?_
            refine lv_fixi (y := (nI ((4 * j17) + j23))) (by rw [nI_add]) ?_
            refine lv_pc (q := 117) rfl ?_
            refine lv_iload hx hb dX12_ground_117 (lv_at hl 8 rfl) ?_
            refine uIast (i := (nI ((4 * j17) + j23))) (j := (4 * j17) + j23) (ws' := [(ph0, .inr (12, [.int 0, .int 4, .int 4, .ref ph1, .ref ph2, .ref pg3, .ref pg4, .int 0, .ref pg5, .ref pg6, .int 0, .ref pg7, .ref pg8, .ref pg9, .ref pg10, .ref pg11, .ref pg12, .ref pg13, .int 0, .ref pg14, .ref pg15, .ref pg16, .ref pg17, .ref pg18, .ref pg19, .int 0, .ref pg20, .int 0, .int 0, .int 0, .ref pg21, .int 0, .int 0, .ref pg22, .int 0, .ref pg23, .ref pg24, .ref pg25, .ref pg26, .ref pg27, .ref pg28, .ref pg29, .ref pg30, .ref pg31, .ref pg32, .ref pg33, .ref pg34, .ref pg35, .ref pg36, .ref pg37, .ref pg38, .ref pg39, .ref pg40, .ref pg41, .ref pg42, .ref pg43, .ref pg44, .ref pg45, .int 0, .int 0, .int 0, .int 0, .int 0, .long 0, .int 0, .int 0, .int 0, .int 0, .int 0, .int (-1), .int 0, .ref pg46, .ref pg47, .ref pg48, .ref pg49, .ref pg50, .int 0, .int 0, .ref pg51, .ref pg52, .ref pg53, .ref pg54, .ref pg55, .ref pg56, .ref pg57, .ref pg58, .int 0, .int 0, .int 0, .int 0, .ref pg59, .ref pg60, .int 0, .ref pg61, .ref pg62, .ref pg63, .ref pg64, .ref pg65, .ref pg66])), (ph1, .inl (K 0, 256, .inl (upd f24 ((4 * j17) + j23) px73))), (ph2, .inl (K 0, 256, .inl (upd f25 ((4 * j17) + j23) px74)))]) B hP hD hS 2 rfl (nI_in (by omega) (by omega)) (nI_clamp (by omega)) rfl dX12_ground_119 (fun H locs hP hD hS => ?_)
            refine lv_iinc (v := nI (j23 + 1)) (lv' := [(8, .int (nI (j23 + 1))), (7, .int (nI j17)), (0, .ref ph0), (1, .int px69), (2, .int px70), (3, .int px71), (4, .int px72), (5, .int px73), (6, .int px74)]) hx hb dX12_ground_120 hl (k := 0) rfl (nI_1 _) (by decide) rfl (fun ls hl => ?_)
            refine lv_goto (tgt := 80) hx hb dX12_ground_123 (by decide) ?_
            refine lv_pc (q := 80) rfl ?_
            refine W.widen (k := 0) (n := 0) (Nat.le_of_ble_eq_true rfl) (Nat.le_of_ble_eq_true rfl) ?_
            exact ih80 (j23 + 1) (upd f24 ((4 * j17) + j23) px73) (upd f25 ((4 * j17) + j23) px74) (by omega) (by omega) _ _ _ (uSub hP [0, 1, 2] rfl) (hD.sub [0, 1, 2] rfl rfl) hS (lv_sub hl [0, 1, 2, 3, 4, 5, 6, 7, 8] rfl)
        refine lv_pc (q := 80) rfl ?_
        refine W.widen (k := 0) (n := 0) (Nat.le_of_ble_eq_true rfl) (Nat.le_of_ble_eq_true rfl) ?_
        exact L27 (((a13 + 1) - a11) + 1) a11 f18 f19 (by omega) (Nat.lt_succ_self _) _ _ _ hP hD hS hl
    refine lv_pc (q := 70) rfl ?_
    refine W.widen (k := 0) (n := 0) (Nat.le_of_ble_eq_true rfl) (Nat.le_of_ble_eq_true rfl) ?_
    exact L21 (((a14 + 1) - a12) + 1) a12 pf67 pf68 (by omega) (Nat.lt_succ_self _) _ _ _ hP hD hS hl
  refine lv_iconst (v := 0) hx hb dX12_ground_65 (by decide) ?_
  exact uRz () B rfl (Or.inl ⟨rfl, Or.inr (Or.inr (Or.inr (Or.inr (Or.inr (Or.inr (Or.inr (Or.inr (Or.inr ⟨c1, c2, c3, c4, c5, c6, c7, c8, c9, c10⟩))))))))⟩) (uSub hP [] rfl) (hD.sub [] rfl rfl) hS dX12_ground_66
def qkX9_plant_37 (ph0 : Nat) (ph1 : Nat) (ph2 : Nat) (pg3 : Nat) (pg4 : Nat) (pg5 : Nat) (pg6 : Nat) (pf7 : Nat → Int32) (pf8 : Nat → Int32) (px9 : Int32) (px10 : Int32) (px11 : Int32) : Int32 → ((Nat → Int32) × (Nat → Int32)) → Prop := (fun (r : Int32) (u : (Nat → Int32) × (Nat → Int32)) => (r = 0 ∧ ((px9 < 1) ∨ (¬ px9 < 1 ∧ 4 ≤ px9) ∨ (¬ px9 < 1 ∧ ¬ 4 ≤ px9 ∧ px10 < 0) ∨ (¬ px9 < 1 ∧ ¬ 4 ≤ px9 ∧ ¬ px10 < 0 ∧ px11 < px10) ∨ (¬ px9 < 1 ∧ ¬ 4 ≤ px9 ∧ ¬ px10 < 0 ∧ ¬ px11 < px10 ∧ ¬ px11 ≤ 60))) ∨ (r = 1 ∧ (¬ px9 < 1 ∧ ¬ 4 ≤ px9 ∧ ¬ px10 < 0 ∧ ¬ px11 < px10 ∧ px11 ≤ 60)))
def vkX9_plant_37 (K : Nat → ClassId) (ph0 : Nat) (ph1 : Nat) (ph2 : Nat) (pg3 : Nat) (pg4 : Nat) (pg5 : Nat) (pg6 : Nat) (pf7 : Nat → Int32) (pf8 : Nat → Int32) (px9 : Int32) (px10 : Int32) (px11 : Int32) : ((Nat → Int32) × (Nat → Int32)) → va_W := (fun (u : (Nat → Int32) × (Nat → Int32)) => [(ph0, .inr (9, [.ref pg3, .ref pg4, .ref ph1, .ref ph2, .ref pg5, .ref pg6, .int 4, .int 4, .int 0])), (ph1, .inl (K 0, 4, .inl (u.1))), (ph2, .inl (K 0, 4, .inl (u.2)))])
set_option maxHeartbeats 4000000 in
set_option maxRecDepth 100000 in
theorem kX9_plant_37 (l : Launch) (D : va_G) (K : Nat → ClassId) (sz : Nat) (ph0 : Nat) (ph1 : Nat) (ph2 : Nat) (pg3 : Nat) (pg4 : Nat) (pg5 : Nat) (pg6 : Nat) (pf7 : Nat → Int32) (pf8 : Nat → Int32) (px9 : Int32) (px10 : Int32) (px11 : Int32) : uMi l yX9_plant cX9_plant 4 (some .boolean) { frames := 0, cells := 0, slots := 0, locals := 0 } [.ref ph0, .int px9, .int px10, .int px11] D K [(ph0, .inr (9, [.ref pg3, .ref pg4, .ref ph1, .ref ph2, .ref pg5, .ref pg6, .int 4, .int 4, .int 0])), (ph1, .inl (K 0, 4, .inl pf7)), (ph2, .inl (K 0, 4, .inl pf8))] sz (qkX9_plant_37 ph0 ph1 ph2 pg3 pg4 pg5 pg6 pf7 pf8 px9 px10 px11) (vkX9_plant_37 K ph0 ph1 ph2 pg3 pg4 pg5 pg6 pf7 pf8 px9 px10 px11) := by
  refine uMet (Qc := uQi D (qkX9_plant_37 ph0 ph1 ph2 pg3 pg4 pg5 pg6 pf7 pf8 px9 px10 px11) (vkX9_plant_37 K ph0 ph1 ph2 pg3 pg4 pg5 pg6 pf7 pf8 px9 px10 px11)) (ret := (some .boolean)) (by decide) (Nat.le_of_ble_eq_true rfl) ?_
  intro p e s m below meth c A ls hAe hsz B hP hD hS hl
  have hx := B.1
  have hb := B.2.1
  have hl : lv_has ls 4 [(0, .ref ph0), (1, .int px9), (2, .int px10), (3, .int px11)] := hl
  refine lv_iload_n hx hb dX9_plant_0 rfl (lv_at hl 1 rfl) ?_
  refine lv_iconst (v := 1) hx hb dX9_plant_1 (by decide) ?_
  refine lv_icmp_lt (tgt := 25) hx hb dX9_plant_2 (by decide) (fun c1 => ?_) (fun c1 => ?_)
  · refine lv_iconst (v := 0) hx hb dX9_plant_25 (by decide) ?_
    exact uRz (pf7, pf8) B rfl (Or.inl ⟨rfl, Or.inl c1⟩) (uSub hP [0, 1, 2] rfl) (hD.sub [0, 1, 2] rfl rfl) hS dX9_plant_26
  refine lv_iload_n hx hb dX9_plant_5 rfl (lv_at hl 1 rfl) ?_
  refine lv_iconst (v := 4) hx hb dX9_plant_6 (by decide) ?_
  refine lv_pc (q := 7) rfl ?_
  refine lv_icmp_ge (tgt := 25) hx hb dX9_plant_7 (by decide) (fun c2 => ?_) (fun c2 => ?_)
  · refine lv_iconst (v := 0) hx hb dX9_plant_25 (by decide) ?_
    exact uRz (pf7, pf8) B rfl (Or.inl ⟨rfl, Or.inr (Or.inl ⟨c1, c2⟩)⟩) (uSub hP [0, 1, 2] rfl) (hD.sub [0, 1, 2] rfl rfl) hS dX9_plant_26
  refine lv_iload_n hx hb dX9_plant_10 rfl (lv_at hl 2 rfl) ?_
  refine lv_if_lt (tgt := 25) hx hb dX9_plant_11 (by decide) (fun c3 => ?_) (fun c3 => ?_)
  · refine lv_iconst (v := 0) hx hb dX9_plant_25 (by decide) ?_
    exact uRz (pf7, pf8) B rfl (Or.inl ⟨rfl, Or.inr (Or.inr (Or.inl ⟨c1, c2, c3⟩))⟩) (uSub hP [0, 1, 2] rfl) (hD.sub [0, 1, 2] rfl rfl) hS dX9_plant_26
  refine lv_iload_n hx hb dX9_plant_14 rfl (lv_at hl 2 rfl) ?_
  refine lv_iload_n hx hb dX9_plant_15 rfl (lv_at hl 3 rfl) ?_
  refine lv_icmp_gt (tgt := 25) hx hb dX9_plant_16 (by decide) (fun c4 => ?_) (fun c4 => ?_)
  · refine lv_pc (q := 25) rfl ?_
    refine lv_iconst (v := 0) hx hb dX9_plant_25 (by decide) ?_
    exact uRz (pf7, pf8) B rfl (Or.inl ⟨rfl, Or.inr (Or.inr (Or.inr (Or.inl ⟨c1, c2, c3, c4⟩)))⟩) (uSub hP [0, 1, 2] rfl) (hD.sub [0, 1, 2] rfl rfl) hS dX9_plant_26
  refine lv_pc (q := 19) rfl ?_
  refine lv_iload_n hx hb dX9_plant_19 rfl (lv_at hl 3 rfl) ?_
  refine lv_bipush (v := 60) hx hb dX9_plant_20 (by decide) ?_
  refine lv_icmp_le (tgt := 27) hx hb dX9_plant_22 (by decide) (fun c5 => ?_) (fun c5 => ?_)
  · refine lv_aload_n hx hb dX9_plant_27 rfl (lv_at hl 0 rfl) ?_
    refine uGet (ci := 9) (C := RX9) (T := TX9) (N := 9) (v := .ref ph1) B inlX9 hP 0 rfl rfl 2 rfl mfl_X9_18 rfl rfl dX9_plant_28 ?_
    refine lv_iload_n hx hb dX9_plant_31 rfl (lv_at hl 1 rfl) ?_
    refine lv_pc (q := 32) rfl ?_
    refine lv_iload_n hx hb dX9_plant_32 rfl (lv_at hl 2 rfl) ?_
    refine uIast (i := px9) (j := (px9).toNatClampNeg) (ws' := [(ph0, .inr (9, [.ref pg3, .ref pg4, .ref ph1, .ref ph2, .ref pg5, .ref pg6, .int 4, .int 4, .int 0])), (ph1, .inl (K 0, 4, .inl (upd pf7 ((px9).toNatClampNeg) px10))), (ph2, .inl (K 0, 4, .inl pf8))]) B hP hD hS 1 rfl (uIn (by simp only [fa_lt, fa_le, fa_eq, Int32.reduceToInt] at c1 c2; omega) (by simp only [fa_lt, fa_le, fa_eq, Int32.reduceToInt] at c1 c2; omega)) rfl rfl dX9_plant_33 (fun H locs hP hD hS => ?_)
    refine lv_aload_n hx hb dX9_plant_34 rfl (lv_at hl 0 rfl) ?_
    refine uGet (ci := 9) (C := RX9) (T := TX9) (N := 9) (v := .ref ph2) B inlX9 hP 0 rfl rfl 3 rfl mfl_X9_21 rfl rfl dX9_plant_35 ?_
    refine lv_iload_n hx hb dX9_plant_38 rfl (lv_at hl 1 rfl) ?_
    refine lv_iload_n hx hb dX9_plant_39 rfl (lv_at hl 3 rfl) ?_
    refine lv_pc (q := 40) rfl ?_
    refine uIast (i := px9) (j := (px9).toNatClampNeg) (ws' := [(ph0, .inr (9, [.ref pg3, .ref pg4, .ref ph1, .ref ph2, .ref pg5, .ref pg6, .int 4, .int 4, .int 0])), (ph1, .inl (K 0, 4, .inl (upd pf7 ((px9).toNatClampNeg) px10))), (ph2, .inl (K 0, 4, .inl (upd pf8 ((px9).toNatClampNeg) px11)))]) B hP hD hS 2 rfl (uIn (by simp only [fa_lt, fa_le, fa_eq, Int32.reduceToInt] at c1 c2; omega) (by simp only [fa_lt, fa_le, fa_eq, Int32.reduceToInt] at c1 c2; omega)) rfl rfl dX9_plant_40 (fun H locs hP hD hS => ?_)
    refine lv_iconst (v := 1) hx hb dX9_plant_41 (by decide) ?_
    exact uRz (upd pf7 ((px9).toNatClampNeg) px10, upd pf8 ((px9).toNatClampNeg) px11) B rfl (Or.inr ⟨rfl, ⟨c1, c2, c3, c4, c5⟩⟩) (uSub hP [0, 1, 2] rfl) (hD.sub [0, 1, 2] rfl rfl) hS dX9_plant_42
  refine lv_iconst (v := 0) hx hb dX9_plant_25 (by decide) ?_
  exact uRz (pf7, pf8) B rfl (Or.inl ⟨rfl, Or.inr (Or.inr (Or.inr (Or.inr ⟨c1, c2, c3, c4, c5⟩)))⟩) (uSub hP [0, 1, 2] rfl) (hD.sub [0, 1, 2] rfl rfl) hS dX9_plant_26
def qkX11_trees_38 (ph0 : Nat) (ph1 : Nat) (ph2 : Nat) (ph3 : Nat) (pg4 : Nat) (pg5 : Nat) (pg6 : Nat) (pg7 : Nat) (pg8 : Nat) (pg9 : Nat) (pg10 : Nat) (pg11 : Nat) (pg12 : Nat) (pg13 : Nat) (pg14 : Nat) (pg15 : Nat) (pg16 : Nat) (pg17 : Nat) (pf18 : Nat → Int32) (pf19 : Nat → Int32) (px20 : Int32) (px21 : Int32) (px22 : Int32) : Int32 → (Unit) → Prop := (fun (r : Int32) (u : Unit) => (r = 0 ∧ (((px20 < 1) ∨ (¬ px20 < 1 ∧ 4 ≤ px20) ∨ (¬ px20 < 1 ∧ ¬ 4 ≤ px20 ∧ px21 < 0) ∨ (¬ px20 < 1 ∧ ¬ 4 ≤ px20 ∧ ¬ px21 < 0 ∧ px22 < px21) ∨ (¬ px20 < 1 ∧ ¬ 4 ≤ px20 ∧ ¬ px21 < 0 ∧ ¬ px22 < px21 ∧ ¬ px22 ≤ 60)))) ∨ (r = 1 ∧ (¬ px20 < 1 ∧ ¬ 4 ≤ px20 ∧ ¬ px21 < 0 ∧ ¬ px22 < px21 ∧ px22 ≤ 60)))
def vkX11_trees_38 (K : Nat → ClassId) (ph0 : Nat) (ph1 : Nat) (ph2 : Nat) (ph3 : Nat) (pg4 : Nat) (pg5 : Nat) (pg6 : Nat) (pg7 : Nat) (pg8 : Nat) (pg9 : Nat) (pg10 : Nat) (pg11 : Nat) (pg12 : Nat) (pg13 : Nat) (pg14 : Nat) (pg15 : Nat) (pg16 : Nat) (pg17 : Nat) (pf18 : Nat → Int32) (pf19 : Nat → Int32) (px20 : Int32) (px21 : Int32) (px22 : Int32) : (Unit) → va_W := (fun (u : Unit) => [])
set_option maxHeartbeats 4000000 in
set_option maxRecDepth 100000 in
theorem kX11_trees_38 (l : Launch) (D : va_G) (K : Nat → ClassId) (sz : Nat) (ph0 : Nat) (ph1 : Nat) (ph2 : Nat) (ph3 : Nat) (pg4 : Nat) (pg5 : Nat) (pg6 : Nat) (pg7 : Nat) (pg8 : Nat) (pg9 : Nat) (pg10 : Nat) (pg11 : Nat) (pg12 : Nat) (pg13 : Nat) (pg14 : Nat) (pg15 : Nat) (pg16 : Nat) (pg17 : Nat) (pf18 : Nat → Int32) (pf19 : Nat → Int32) (px20 : Int32) (px21 : Int32) (px22 : Int32) : uMi l yX11_trees cX11_trees 4 (some .boolean) { frames := 1, cells := 0, slots := 0, locals := 23 } [.ref ph0, .int px20, .int px21, .int px22] D K [(ph0, .inr (11, [.ref ph1, .ref pg4, .ref pg5, .ref pg6, .ref pg7, .ref pg8, .ref pg9, .ref pg10, .ref pg11, .ref pg12, .ref pg13])), (ph1, .inr (9, [.ref pg14, .ref pg15, .ref ph2, .ref ph3, .ref pg16, .ref pg17, .int 4, .int 4, .int 0])), (ph2, .inl (K 0, 4, .inl pf18)), (ph3, .inl (K 0, 4, .inl pf19))] sz (qkX11_trees_38 ph0 ph1 ph2 ph3 pg4 pg5 pg6 pg7 pg8 pg9 pg10 pg11 pg12 pg13 pg14 pg15 pg16 pg17 pf18 pf19 px20 px21 px22) (vkX11_trees_38 K ph0 ph1 ph2 ph3 pg4 pg5 pg6 pg7 pg8 pg9 pg10 pg11 pg12 pg13 pg14 pg15 pg16 pg17 pf18 pf19 px20 px21 px22) := by
  refine uMet (Qc := uQi D (qkX11_trees_38 ph0 ph1 ph2 ph3 pg4 pg5 pg6 pg7 pg8 pg9 pg10 pg11 pg12 pg13 pg14 pg15 pg16 pg17 pf18 pf19 px20 px21 px22) (vkX11_trees_38 K ph0 ph1 ph2 ph3 pg4 pg5 pg6 pg7 pg8 pg9 pg10 pg11 pg12 pg13 pg14 pg15 pg16 pg17 pf18 pf19 px20 px21 px22)) (ret := (some .boolean)) (by decide) (Nat.le_of_ble_eq_true rfl) ?_
  intro p e s m below meth c A ls hAe hsz B hP hD hS hl
  have hx := B.1
  have hb := B.2.1
  have hl : lv_has ls 4 [(0, .ref ph0), (1, .int px20), (2, .int px21), (3, .int px22)] := hl
  refine lv_aload_n hx hb dX11_trees_0 rfl (lv_at hl 0 rfl) ?_
  refine uGet (ci := 11) (C := RX11) (T := TX11) (N := 11) (v := .ref ph1) B inlX11 hP 0 rfl rfl 0 rfl mfl_X11_10 rfl rfl dX11_trees_1 ?_
  refine lv_iload_n hx hb dX11_trees_4 rfl (lv_at hl 1 rfl) ?_
  refine lv_iload_n hx hb dX11_trees_5 rfl (lv_at hl 2 rfl) ?_
  refine lv_iload_n hx hb dX11_trees_6 rfl (lv_at hl 3 rfl) ?_
  refine lv_pc (q := 7) rfl ?_
  refine uVi (As := [.int px20, .int px21, .int px22]) (rest := []) (wr := [(ph0, .inr (11, [.ref ph1, .ref pg4, .ref pg5, .ref pg6, .ref pg7, .ref pg8, .ref pg9, .ref pg10, .ref pg11, .ref pg12, .ref pg13]))]) [(ph1, .inr (9, [.ref pg14, .ref pg15, .ref ph2, .ref ph3, .ref pg16, .ref pg17, .int 4, .int 4, .int 0])), (ph2, .inl (K 0, 4, .inl pf18)), (ph3, .inl (K 0, 4, .inl pf19))] B hl.1 hP hD hS [1, 2, 3] [0] rfl rfl rfl (kX9_plant_37 l D K _ ph1 ph2 ph3 pg14 pg15 pg16 pg17 pf18 pf19 px20 px21 px22) wd_X9_plant mml_X11_119 rfl rfl rfl rfl ⟨Nat.le_of_ble_eq_true rfl, Nat.le_of_ble_eq_true rfl⟩ (Nat.le_of_ble_eq_true rfl) ⟨Nat.le_of_ble_eq_true rfl, Nat.le_of_ble_eq_true rfl⟩ dX11_trees_7 (fun r1 u H locs hw hP hD hS => ?_)
  obtain ⟨u2, u3⟩ := u
  try dsimp only at hw
  rcases hw with ⟨rfl, w4⟩ | ⟨rfl, ⟨w5, w6, w7, w8, w9⟩⟩
  · have hP : va_P D vwCl [(ph0, .inr (11, [.ref ph1, .ref pg4, .ref pg5, .ref pg6, .ref pg7, .ref pg8, .ref pg9, .ref pg10, .ref pg11, .ref pg12, .ref pg13])), (ph1, .inr (9, [.ref pg14, .ref pg15, .ref ph2, .ref ph3, .ref pg16, .ref pg17, .int 4, .int 4, .int 0])), (ph2, .inl (K 0, 4, .inl u2)), (ph3, .inl (K 0, 4, .inl u3))] H := hP
    have hD : va_D A [(ph0, .inr (11, [.ref ph1, .ref pg4, .ref pg5, .ref pg6, .ref pg7, .ref pg8, .ref pg9, .ref pg10, .ref pg11, .ref pg12, .ref pg13])), (ph1, .inr (9, [.ref pg14, .ref pg15, .ref ph2, .ref ph3, .ref pg16, .ref pg17, .int 4, .int 4, .int 0])), (ph2, .inl (K 0, 4, .inl u2)), (ph3, .inl (K 0, 4, .inl u3))] := hD
    exact uRz () B rfl (Or.inl ⟨rfl, w4⟩) (uSub hP [] rfl) (hD.sub [] rfl rfl) hS dX11_trees_10
  have hP : va_P D vwCl [(ph0, .inr (11, [.ref ph1, .ref pg4, .ref pg5, .ref pg6, .ref pg7, .ref pg8, .ref pg9, .ref pg10, .ref pg11, .ref pg12, .ref pg13])), (ph1, .inr (9, [.ref pg14, .ref pg15, .ref ph2, .ref ph3, .ref pg16, .ref pg17, .int 4, .int 4, .int 0])), (ph2, .inl (K 0, 4, .inl u2)), (ph3, .inl (K 0, 4, .inl u3))] H := hP
  have hD : va_D A [(ph0, .inr (11, [.ref ph1, .ref pg4, .ref pg5, .ref pg6, .ref pg7, .ref pg8, .ref pg9, .ref pg10, .ref pg11, .ref pg12, .ref pg13])), (ph1, .inr (9, [.ref pg14, .ref pg15, .ref ph2, .ref ph3, .ref pg16, .ref pg17, .int 4, .int 4, .int 0])), (ph2, .inl (K 0, 4, .inl u2)), (ph3, .inl (K 0, 4, .inl u3))] := hD
  exact uRz () B rfl (Or.inr ⟨rfl, ⟨w5, w6, w7, w8, w9⟩⟩) (uSub hP [] rfl) (hD.sub [] rfl rfl) hS dX11_trees_10
def qkX12_trees_39 (ph0 : Nat) (ph1 : Nat) (ph2 : Nat) (pg3 : Nat) (pg4 : Nat) (pg5 : Nat) (pg6 : Nat) (pg7 : Nat) (pg8 : Nat) (pg9 : Nat) (pg10 : Nat) (pg11 : Nat) (pg12 : Nat) (pg13 : Nat) (pg14 : Nat) (pg15 : Nat) (pg16 : Nat) (pg17 : Nat) (pg18 : Nat) (pg19 : Nat) (pg20 : Nat) (pg21 : Nat) (pg22 : Nat) (pg23 : Nat) (pg24 : Nat) (pg25 : Nat) (pg26 : Nat) (pg27 : Nat) (pg28 : Nat) (pg29 : Nat) (pg30 : Nat) (pg31 : Nat) (pg32 : Nat) (pg33 : Nat) (pg34 : Nat) (pg35 : Nat) (pg36 : Nat) (pg37 : Nat) (pg38 : Nat) (pg39 : Nat) (pg40 : Nat) (pg41 : Nat) (pg42 : Nat) (pg43 : Nat) (pg44 : Nat) (pg45 : Nat) (pg46 : Nat) (pg47 : Nat) (pg48 : Nat) (pg49 : Nat) (pg50 : Nat) (pg51 : Nat) (pg52 : Nat) (pg53 : Nat) (pg54 : Nat) (pg55 : Nat) (pg56 : Nat) (pg57 : Nat) (pg58 : Nat) (pg59 : Nat) (pg60 : Nat) (pg61 : Nat) (pg62 : Nat) (pg63 : Nat) (pg64 : Nat) (pg65 : Nat) (pg66 : Nat) (pf67 : Nat → Int32) (pf68 : Nat → Int32) (px69 : Int32) (px70 : Int32) (px71 : Int32) : Int32 → (Unit) → Prop := (fun (r : Int32) (u : Unit) => (r = 0 ∧ ((px69 < 1) ∨ (¬ px69 < 1 ∧ 3 < px69) ∨ (¬ px69 < 1 ∧ ¬ 3 < px69 ∧ px70 < 0) ∨ (¬ px69 < 1 ∧ ¬ 3 < px69 ∧ ¬ px70 < 0 ∧ px71 < px70) ∨ (¬ px69 < 1 ∧ ¬ 3 < px69 ∧ ¬ px70 < 0 ∧ ¬ px71 < px70 ∧ ¬ px71 ≤ 60))) ∨ (r = 1 ∧ (¬ px69 < 1 ∧ ¬ 3 < px69 ∧ ¬ px70 < 0 ∧ ¬ px71 < px70 ∧ px71 ≤ 60)))
def vkX12_trees_39 (K : Nat → ClassId) (ph0 : Nat) (ph1 : Nat) (ph2 : Nat) (pg3 : Nat) (pg4 : Nat) (pg5 : Nat) (pg6 : Nat) (pg7 : Nat) (pg8 : Nat) (pg9 : Nat) (pg10 : Nat) (pg11 : Nat) (pg12 : Nat) (pg13 : Nat) (pg14 : Nat) (pg15 : Nat) (pg16 : Nat) (pg17 : Nat) (pg18 : Nat) (pg19 : Nat) (pg20 : Nat) (pg21 : Nat) (pg22 : Nat) (pg23 : Nat) (pg24 : Nat) (pg25 : Nat) (pg26 : Nat) (pg27 : Nat) (pg28 : Nat) (pg29 : Nat) (pg30 : Nat) (pg31 : Nat) (pg32 : Nat) (pg33 : Nat) (pg34 : Nat) (pg35 : Nat) (pg36 : Nat) (pg37 : Nat) (pg38 : Nat) (pg39 : Nat) (pg40 : Nat) (pg41 : Nat) (pg42 : Nat) (pg43 : Nat) (pg44 : Nat) (pg45 : Nat) (pg46 : Nat) (pg47 : Nat) (pg48 : Nat) (pg49 : Nat) (pg50 : Nat) (pg51 : Nat) (pg52 : Nat) (pg53 : Nat) (pg54 : Nat) (pg55 : Nat) (pg56 : Nat) (pg57 : Nat) (pg58 : Nat) (pg59 : Nat) (pg60 : Nat) (pg61 : Nat) (pg62 : Nat) (pg63 : Nat) (pg64 : Nat) (pg65 : Nat) (pg66 : Nat) (pf67 : Nat → Int32) (pf68 : Nat → Int32) (px69 : Int32) (px70 : Int32) (px71 : Int32) : (Unit) → va_W := (fun (u : Unit) => [])
set_option maxHeartbeats 4000000 in
set_option maxRecDepth 100000 in
theorem kX12_trees_39 (l : Launch) (D : va_G) (K : Nat → ClassId) (sz : Nat) (ph0 : Nat) (ph1 : Nat) (ph2 : Nat) (pg3 : Nat) (pg4 : Nat) (pg5 : Nat) (pg6 : Nat) (pg7 : Nat) (pg8 : Nat) (pg9 : Nat) (pg10 : Nat) (pg11 : Nat) (pg12 : Nat) (pg13 : Nat) (pg14 : Nat) (pg15 : Nat) (pg16 : Nat) (pg17 : Nat) (pg18 : Nat) (pg19 : Nat) (pg20 : Nat) (pg21 : Nat) (pg22 : Nat) (pg23 : Nat) (pg24 : Nat) (pg25 : Nat) (pg26 : Nat) (pg27 : Nat) (pg28 : Nat) (pg29 : Nat) (pg30 : Nat) (pg31 : Nat) (pg32 : Nat) (pg33 : Nat) (pg34 : Nat) (pg35 : Nat) (pg36 : Nat) (pg37 : Nat) (pg38 : Nat) (pg39 : Nat) (pg40 : Nat) (pg41 : Nat) (pg42 : Nat) (pg43 : Nat) (pg44 : Nat) (pg45 : Nat) (pg46 : Nat) (pg47 : Nat) (pg48 : Nat) (pg49 : Nat) (pg50 : Nat) (pg51 : Nat) (pg52 : Nat) (pg53 : Nat) (pg54 : Nat) (pg55 : Nat) (pg56 : Nat) (pg57 : Nat) (pg58 : Nat) (pg59 : Nat) (pg60 : Nat) (pg61 : Nat) (pg62 : Nat) (pg63 : Nat) (pg64 : Nat) (pg65 : Nat) (pg66 : Nat) (pf67 : Nat → Int32) (pf68 : Nat → Int32) (px69 : Int32) (px70 : Int32) (px71 : Int32) : uMi l yX12_trees cX12_trees 4 (some .boolean) { frames := 0, cells := 0, slots := 0, locals := 0 } [.ref ph0, .int px69, .int px70, .int px71] D K [(ph0, .inr (12, [.int 0, .int 4, .int 4, .ref pg3, .ref pg4, .ref ph1, .ref ph2, .int 0, .ref pg5, .ref pg6, .int 0, .ref pg7, .ref pg8, .ref pg9, .ref pg10, .ref pg11, .ref pg12, .ref pg13, .int 0, .ref pg14, .ref pg15, .ref pg16, .ref pg17, .ref pg18, .ref pg19, .int 0, .ref pg20, .int 0, .int 0, .int 0, .ref pg21, .int 0, .int 0, .ref pg22, .int 0, .ref pg23, .ref pg24, .ref pg25, .ref pg26, .ref pg27, .ref pg28, .ref pg29, .ref pg30, .ref pg31, .ref pg32, .ref pg33, .ref pg34, .ref pg35, .ref pg36, .ref pg37, .ref pg38, .ref pg39, .ref pg40, .ref pg41, .ref pg42, .ref pg43, .ref pg44, .ref pg45, .int 0, .int 0, .int 0, .int 0, .int 0, .long 0, .int 0, .int 0, .int 0, .int 0, .int 0, .int (-1), .int 0, .ref pg46, .ref pg47, .ref pg48, .ref pg49, .ref pg50, .int 0, .int 0, .ref pg51, .ref pg52, .ref pg53, .ref pg54, .ref pg55, .ref pg56, .ref pg57, .ref pg58, .int 0, .int 0, .int 0, .int 0, .ref pg59, .ref pg60, .int 0, .ref pg61, .ref pg62, .ref pg63, .ref pg64, .ref pg65, .ref pg66])), (ph1, .inl (K 0, 4, .inl pf67)), (ph2, .inl (K 0, 4, .inl pf68))] sz (qkX12_trees_39 ph0 ph1 ph2 pg3 pg4 pg5 pg6 pg7 pg8 pg9 pg10 pg11 pg12 pg13 pg14 pg15 pg16 pg17 pg18 pg19 pg20 pg21 pg22 pg23 pg24 pg25 pg26 pg27 pg28 pg29 pg30 pg31 pg32 pg33 pg34 pg35 pg36 pg37 pg38 pg39 pg40 pg41 pg42 pg43 pg44 pg45 pg46 pg47 pg48 pg49 pg50 pg51 pg52 pg53 pg54 pg55 pg56 pg57 pg58 pg59 pg60 pg61 pg62 pg63 pg64 pg65 pg66 pf67 pf68 px69 px70 px71) (vkX12_trees_39 K ph0 ph1 ph2 pg3 pg4 pg5 pg6 pg7 pg8 pg9 pg10 pg11 pg12 pg13 pg14 pg15 pg16 pg17 pg18 pg19 pg20 pg21 pg22 pg23 pg24 pg25 pg26 pg27 pg28 pg29 pg30 pg31 pg32 pg33 pg34 pg35 pg36 pg37 pg38 pg39 pg40 pg41 pg42 pg43 pg44 pg45 pg46 pg47 pg48 pg49 pg50 pg51 pg52 pg53 pg54 pg55 pg56 pg57 pg58 pg59 pg60 pg61 pg62 pg63 pg64 pg65 pg66 pf67 pf68 px69 px70 px71) := by
  refine uMet (Qc := uQi D (qkX12_trees_39 ph0 ph1 ph2 pg3 pg4 pg5 pg6 pg7 pg8 pg9 pg10 pg11 pg12 pg13 pg14 pg15 pg16 pg17 pg18 pg19 pg20 pg21 pg22 pg23 pg24 pg25 pg26 pg27 pg28 pg29 pg30 pg31 pg32 pg33 pg34 pg35 pg36 pg37 pg38 pg39 pg40 pg41 pg42 pg43 pg44 pg45 pg46 pg47 pg48 pg49 pg50 pg51 pg52 pg53 pg54 pg55 pg56 pg57 pg58 pg59 pg60 pg61 pg62 pg63 pg64 pg65 pg66 pf67 pf68 px69 px70 px71) (vkX12_trees_39 K ph0 ph1 ph2 pg3 pg4 pg5 pg6 pg7 pg8 pg9 pg10 pg11 pg12 pg13 pg14 pg15 pg16 pg17 pg18 pg19 pg20 pg21 pg22 pg23 pg24 pg25 pg26 pg27 pg28 pg29 pg30 pg31 pg32 pg33 pg34 pg35 pg36 pg37 pg38 pg39 pg40 pg41 pg42 pg43 pg44 pg45 pg46 pg47 pg48 pg49 pg50 pg51 pg52 pg53 pg54 pg55 pg56 pg57 pg58 pg59 pg60 pg61 pg62 pg63 pg64 pg65 pg66 pf67 pf68 px69 px70 px71)) (ret := (some .boolean)) (by decide) (Nat.le_of_ble_eq_true rfl) ?_
  intro p e s m below meth c A ls hAe hsz B hP hD hS hl
  have hx := B.1
  have hb := B.2.1
  have hl : lv_has ls 4 [(0, .ref ph0), (1, .int px69), (2, .int px70), (3, .int px71)] := hl
  refine lv_aload_n hx hb dX12_trees_0 rfl (lv_at hl 0 rfl) ?_
  refine lv_iconst (v := 0) hx hb dX12_trees_1 (by decide) ?_
  refine uPut (ci := 12) (C := RX12) (T := TX12) (N := 99) (ws' := [(ph0, .inr (12, [.int 0, .int 4, .int 4, .ref pg3, .ref pg4, .ref ph1, .ref ph2, .int 0, .ref pg5, .ref pg6, .int 0, .ref pg7, .ref pg8, .ref pg9, .ref pg10, .ref pg11, .ref pg12, .ref pg13, .int 0, .ref pg14, .ref pg15, .ref pg16, .ref pg17, .ref pg18, .ref pg19, .int 0, .ref pg20, .int 0, .int 0, .int 0, .ref pg21, .int 0, .int 0, .ref pg22, .int 0, .ref pg23, .ref pg24, .ref pg25, .ref pg26, .ref pg27, .ref pg28, .ref pg29, .ref pg30, .ref pg31, .ref pg32, .ref pg33, .ref pg34, .ref pg35, .ref pg36, .ref pg37, .ref pg38, .ref pg39, .ref pg40, .ref pg41, .ref pg42, .ref pg43, .ref pg44, .ref pg45, .int 0, .int 0, .int 0, .int 0, .int 0, .long 0, .int 0, .int 0, .int 0, .int 0, .int 0, .int (-1), .int 0, .ref pg46, .ref pg47, .ref pg48, .ref pg49, .ref pg50, .int 0, .int 0, .ref pg51, .ref pg52, .ref pg53, .ref pg54, .ref pg55, .ref pg56, .ref pg57, .ref pg58, .int 0, .int 0, .int 0, .int 0, .ref pg59, .ref pg60, .int 0, .ref pg61, .ref pg62, .ref pg63, .ref pg64, .ref pg65, .ref pg66])), (ph1, .inl (K 0, 4, .inl pf67)), (ph2, .inl (K 0, 4, .inl pf68))]) B inlX12 tyX12_ok nmX12 hP hD hS 0 rfl rfl 0 rfl mfl_X12_224 rfl rfl rfl rfl rfl rfl dX12_trees_2 (fun H locs hP hD hS => ?_)
  refine lv_iload_n hx hb dX12_trees_5 rfl (lv_at hl 1 rfl) ?_
  refine lv_iconst (v := 1) hx hb dX12_trees_6 (by decide) ?_
  refine lv_pc (q := 7) rfl ?_
  refine lv_icmp_lt (tgt := 30) hx hb dX12_trees_7 (by decide) (fun c1 => ?_) (fun c1 => ?_)
  · refine lv_iconst (v := 0) hx hb dX12_trees_30 (by decide) ?_
    exact uRz () B rfl (Or.inl ⟨rfl, Or.inl c1⟩) (uSub hP [] rfl) (hD.sub [] rfl rfl) hS dX12_trees_31
  refine lv_iload_n hx hb dX12_trees_10 rfl (lv_at hl 1 rfl) ?_
  refine lv_iconst (v := 3) hx hb dX12_trees_11 (by decide) ?_
  refine lv_icmp_gt (tgt := 30) hx hb dX12_trees_12 (by decide) (fun c2 => ?_) (fun c2 => ?_)
  · refine lv_iconst (v := 0) hx hb dX12_trees_30 (by decide) ?_
    exact uRz () B rfl (Or.inl ⟨rfl, Or.inr (Or.inl ⟨c1, c2⟩)⟩) (uSub hP [] rfl) (hD.sub [] rfl rfl) hS dX12_trees_31
  refine lv_iload_n hx hb dX12_trees_15 rfl (lv_at hl 2 rfl) ?_
  refine lv_if_lt (tgt := 30) hx hb dX12_trees_16 (by decide) (fun c3 => ?_) (fun c3 => ?_)
  · refine lv_pc (q := 30) rfl ?_
    refine lv_iconst (v := 0) hx hb dX12_trees_30 (by decide) ?_
    exact uRz () B rfl (Or.inl ⟨rfl, Or.inr (Or.inr (Or.inl ⟨c1, c2, c3⟩))⟩) (uSub hP [] rfl) (hD.sub [] rfl rfl) hS dX12_trees_31
  refine lv_pc (q := 19) rfl ?_
  refine lv_iload_n hx hb dX12_trees_19 rfl (lv_at hl 2 rfl) ?_
  refine lv_iload_n hx hb dX12_trees_20 rfl (lv_at hl 3 rfl) ?_
  refine lv_icmp_gt (tgt := 30) hx hb dX12_trees_21 (by decide) (fun c4 => ?_) (fun c4 => ?_)
  · refine lv_iconst (v := 0) hx hb dX12_trees_30 (by decide) ?_
    exact uRz () B rfl (Or.inl ⟨rfl, Or.inr (Or.inr (Or.inr (Or.inl ⟨c1, c2, c3, c4⟩)))⟩) (uSub hP [] rfl) (hD.sub [] rfl rfl) hS dX12_trees_31
  refine lv_iload_n hx hb dX12_trees_24 rfl (lv_at hl 3 rfl) ?_
  refine lv_bipush (v := 60) hx hb dX12_trees_25 (by decide) ?_
  refine lv_icmp_le (tgt := 32) hx hb dX12_trees_27 (by decide) (fun c5 => ?_) (fun c5 => ?_)
  · refine lv_pc (q := 32) rfl ?_
    refine lv_aload_n hx hb dX12_trees_32 rfl (lv_at hl 0 rfl) ?_
    refine uGet (ci := 12) (C := RX12) (T := TX12) (N := 99) (v := .ref ph1) B inlX12 hP 0 rfl rfl 5 rfl mfl_X12_23 rfl rfl dX12_trees_33 ?_
    refine lv_iload_n hx hb dX12_trees_36 rfl (lv_at hl 1 rfl) ?_
    refine lv_iload_n hx hb dX12_trees_37 rfl (lv_at hl 2 rfl) ?_
    refine uIast (i := px69) (j := (px69).toNatClampNeg) (ws' := [(ph0, .inr (12, [.int 0, .int 4, .int 4, .ref pg3, .ref pg4, .ref ph1, .ref ph2, .int 0, .ref pg5, .ref pg6, .int 0, .ref pg7, .ref pg8, .ref pg9, .ref pg10, .ref pg11, .ref pg12, .ref pg13, .int 0, .ref pg14, .ref pg15, .ref pg16, .ref pg17, .ref pg18, .ref pg19, .int 0, .ref pg20, .int 0, .int 0, .int 0, .ref pg21, .int 0, .int 0, .ref pg22, .int 0, .ref pg23, .ref pg24, .ref pg25, .ref pg26, .ref pg27, .ref pg28, .ref pg29, .ref pg30, .ref pg31, .ref pg32, .ref pg33, .ref pg34, .ref pg35, .ref pg36, .ref pg37, .ref pg38, .ref pg39, .ref pg40, .ref pg41, .ref pg42, .ref pg43, .ref pg44, .ref pg45, .int 0, .int 0, .int 0, .int 0, .int 0, .long 0, .int 0, .int 0, .int 0, .int 0, .int 0, .int (-1), .int 0, .ref pg46, .ref pg47, .ref pg48, .ref pg49, .ref pg50, .int 0, .int 0, .ref pg51, .ref pg52, .ref pg53, .ref pg54, .ref pg55, .ref pg56, .ref pg57, .ref pg58, .int 0, .int 0, .int 0, .int 0, .ref pg59, .ref pg60, .int 0, .ref pg61, .ref pg62, .ref pg63, .ref pg64, .ref pg65, .ref pg66])), (ph1, .inl (K 0, 4, .inl (upd pf67 ((px69).toNatClampNeg) px70))), (ph2, .inl (K 0, 4, .inl pf68))]) B hP hD hS 1 rfl (uIn (by simp only [fa_lt, fa_le, fa_eq, Int32.reduceToInt] at c1 c2; omega) (by simp only [fa_lt, fa_le, fa_eq, Int32.reduceToInt] at c1 c2; omega)) rfl rfl dX12_trees_38 (fun H locs hP hD hS => ?_)
    refine lv_aload_n hx hb dX12_trees_39 rfl (lv_at hl 0 rfl) ?_
    refine lv_pc (q := 40) rfl ?_
    refine uGet (ci := 12) (C := RX12) (T := TX12) (N := 99) (v := .ref ph2) B inlX12 hP 0 rfl rfl 6 rfl mfl_X12_26 rfl rfl dX12_trees_40 ?_
    refine lv_iload_n hx hb dX12_trees_43 rfl (lv_at hl 1 rfl) ?_
    refine lv_iload_n hx hb dX12_trees_44 rfl (lv_at hl 3 rfl) ?_
    refine uIast (i := px69) (j := (px69).toNatClampNeg) (ws' := [(ph0, .inr (12, [.int 0, .int 4, .int 4, .ref pg3, .ref pg4, .ref ph1, .ref ph2, .int 0, .ref pg5, .ref pg6, .int 0, .ref pg7, .ref pg8, .ref pg9, .ref pg10, .ref pg11, .ref pg12, .ref pg13, .int 0, .ref pg14, .ref pg15, .ref pg16, .ref pg17, .ref pg18, .ref pg19, .int 0, .ref pg20, .int 0, .int 0, .int 0, .ref pg21, .int 0, .int 0, .ref pg22, .int 0, .ref pg23, .ref pg24, .ref pg25, .ref pg26, .ref pg27, .ref pg28, .ref pg29, .ref pg30, .ref pg31, .ref pg32, .ref pg33, .ref pg34, .ref pg35, .ref pg36, .ref pg37, .ref pg38, .ref pg39, .ref pg40, .ref pg41, .ref pg42, .ref pg43, .ref pg44, .ref pg45, .int 0, .int 0, .int 0, .int 0, .int 0, .long 0, .int 0, .int 0, .int 0, .int 0, .int 0, .int (-1), .int 0, .ref pg46, .ref pg47, .ref pg48, .ref pg49, .ref pg50, .int 0, .int 0, .ref pg51, .ref pg52, .ref pg53, .ref pg54, .ref pg55, .ref pg56, .ref pg57, .ref pg58, .int 0, .int 0, .int 0, .int 0, .ref pg59, .ref pg60, .int 0, .ref pg61, .ref pg62, .ref pg63, .ref pg64, .ref pg65, .ref pg66])), (ph1, .inl (K 0, 4, .inl (upd pf67 ((px69).toNatClampNeg) px70))), (ph2, .inl (K 0, 4, .inl (upd pf68 ((px69).toNatClampNeg) px71)))]) B hP hD hS 2 rfl (uIn (by simp only [fa_lt, fa_le, fa_eq, Int32.reduceToInt] at c1 c2; omega) (by simp only [fa_lt, fa_le, fa_eq, Int32.reduceToInt] at c1 c2; omega)) rfl rfl dX12_trees_45 (fun H locs hP hD hS => ?_)
    refine lv_iconst (v := 1) hx hb dX12_trees_46 (by decide) ?_
    exact uRz () B rfl (Or.inr ⟨rfl, ⟨c1, c2, c3, c4, c5⟩⟩) (uSub hP [] rfl) (hD.sub [] rfl rfl) hS dX12_trees_47
  refine lv_pc (q := 30) rfl ?_
  refine lv_iconst (v := 0) hx hb dX12_trees_30 (by decide) ?_
  exact uRz () B rfl (Or.inl ⟨rfl, Or.inr (Or.inr (Or.inr (Or.inr ⟨c1, c2, c3, c4, c5⟩)))⟩) (uSub hP [] rfl) (hD.sub [] rfl rfl) hS dX12_trees_31
def qkX9_curve_40 (ph0 : Nat) (pg1 : Nat) (pg2 : Nat) (pg3 : Nat) (pg4 : Nat) (pg5 : Nat) (pg6 : Nat) (px7 : Int32) : Int32 → (Int32) → Prop := (fun (r : Int32) (u : Int32) => (r = 0 ∧ u = 0 ∧ ((px7 < 0) ∨ (¬ px7 < 0 ∧ ¬ px7 ≤ 999))) ∨ (r = 1 ∧ u = px7 ∧ (¬ px7 < 0 ∧ px7 ≤ 999)))
def vkX9_curve_40 (K : Nat → ClassId) (ph0 : Nat) (pg1 : Nat) (pg2 : Nat) (pg3 : Nat) (pg4 : Nat) (pg5 : Nat) (pg6 : Nat) (px7 : Int32) : (Int32) → va_W := (fun (u : Int32) => [(ph0, .inr (9, [.ref pg1, .ref pg2, .ref pg3, .ref pg4, .ref pg5, .ref pg6, .int 4, .int 4, .int u]))])
set_option maxHeartbeats 4000000 in
set_option maxRecDepth 100000 in
theorem kX9_curve_40 (l : Launch) (D : va_G) (K : Nat → ClassId) (sz : Nat) (ph0 : Nat) (pg1 : Nat) (pg2 : Nat) (pg3 : Nat) (pg4 : Nat) (pg5 : Nat) (pg6 : Nat) (px7 : Int32) : uMi l yX9_curve cX9_curve 2 (some .boolean) { frames := 0, cells := 0, slots := 0, locals := 0 } [.ref ph0, .int px7] D K [(ph0, .inr (9, [.ref pg1, .ref pg2, .ref pg3, .ref pg4, .ref pg5, .ref pg6, .int 4, .int 4, .int 0]))] sz (qkX9_curve_40 ph0 pg1 pg2 pg3 pg4 pg5 pg6 px7) (vkX9_curve_40 K ph0 pg1 pg2 pg3 pg4 pg5 pg6 px7) := by
  refine uMet (Qc := uQi D (qkX9_curve_40 ph0 pg1 pg2 pg3 pg4 pg5 pg6 px7) (vkX9_curve_40 K ph0 pg1 pg2 pg3 pg4 pg5 pg6 px7)) (ret := (some .boolean)) (by decide) (Nat.le_of_ble_eq_true rfl) ?_
  intro p e s m below meth c A ls hAe hsz B hP hD hS hl
  have hx := B.1
  have hb := B.2.1
  have hl : lv_has ls 2 [(0, .ref ph0), (1, .int px7)] := hl
  refine lv_iload_n hx hb dX9_curve_0 rfl (lv_at hl 1 rfl) ?_
  refine lv_if_lt (tgt := 11) hx hb dX9_curve_1 (by decide) (fun c1 => ?_) (fun c1 => ?_)
  · refine lv_iconst (v := 0) hx hb dX9_curve_11 (by decide) ?_
    exact uRz 0 B rfl (Or.inl ⟨rfl, rfl, Or.inl c1⟩) (uSub hP [0] rfl) (hD.sub [0] rfl rfl) hS dX9_curve_12
  refine lv_iload_n hx hb dX9_curve_4 rfl (lv_at hl 1 rfl) ?_
  refine lv_sipush (v := 999) hx hb dX9_curve_5 (by decide) ?_
  refine lv_icmp_le (tgt := 13) hx hb dX9_curve_8 (by decide) (fun c2 => ?_) (fun c2 => ?_)
  · refine lv_pc (q := 13) rfl ?_
    refine lv_aload_n hx hb dX9_curve_13 rfl (lv_at hl 0 rfl) ?_
    refine lv_iload_n hx hb dX9_curve_14 rfl (lv_at hl 1 rfl) ?_
    refine uPut (ci := 9) (C := RX9) (T := TX9) (N := 9) (ws' := [(ph0, .inr (9, [.ref pg1, .ref pg2, .ref pg3, .ref pg4, .ref pg5, .ref pg6, .int 4, .int 4, .int px7]))]) B inlX9 tyX9_ok nmX9 hP hD hS 0 rfl rfl 8 rfl mfl_X9_37 rfl rfl rfl rfl rfl rfl dX9_curve_15 (fun H locs hP hD hS => ?_)
    refine lv_iconst (v := 1) hx hb dX9_curve_18 (by decide) ?_
    exact uRz px7 B rfl (Or.inr ⟨rfl, rfl, ⟨c1, c2⟩⟩) (uSub hP [0] rfl) (hD.sub [0] rfl rfl) hS dX9_curve_19
  refine lv_pc (q := 11) rfl ?_
  refine lv_iconst (v := 0) hx hb dX9_curve_11 (by decide) ?_
  exact uRz 0 B rfl (Or.inl ⟨rfl, rfl, Or.inr ⟨c1, c2⟩⟩) (uSub hP [0] rfl) (hD.sub [0] rfl rfl) hS dX9_curve_12
def qkX11_bend_41 (ph0 : Nat) (ph1 : Nat) (pg2 : Nat) (pg3 : Nat) (pg4 : Nat) (pg5 : Nat) (pg6 : Nat) (pg7 : Nat) (pg8 : Nat) (pg9 : Nat) (pg10 : Nat) (pg11 : Nat) (pg12 : Nat) (pg13 : Nat) (pg14 : Nat) (pg15 : Nat) (pg16 : Nat) (pg17 : Nat) (px18 : Int32) : Int32 → (Unit) → Prop := (fun (r : Int32) (u : Unit) => (r = 0 ∧ (((px18 < 0) ∨ (¬ px18 < 0 ∧ ¬ px18 ≤ 999)))) ∨ (r = 1 ∧ (¬ px18 < 0 ∧ px18 ≤ 999)))
def vkX11_bend_41 (K : Nat → ClassId) (ph0 : Nat) (ph1 : Nat) (pg2 : Nat) (pg3 : Nat) (pg4 : Nat) (pg5 : Nat) (pg6 : Nat) (pg7 : Nat) (pg8 : Nat) (pg9 : Nat) (pg10 : Nat) (pg11 : Nat) (pg12 : Nat) (pg13 : Nat) (pg14 : Nat) (pg15 : Nat) (pg16 : Nat) (pg17 : Nat) (px18 : Int32) : (Unit) → va_W := (fun (u : Unit) => [])
set_option maxHeartbeats 4000000 in
set_option maxRecDepth 100000 in
theorem kX11_bend_41 (l : Launch) (D : va_G) (K : Nat → ClassId) (sz : Nat) (ph0 : Nat) (ph1 : Nat) (pg2 : Nat) (pg3 : Nat) (pg4 : Nat) (pg5 : Nat) (pg6 : Nat) (pg7 : Nat) (pg8 : Nat) (pg9 : Nat) (pg10 : Nat) (pg11 : Nat) (pg12 : Nat) (pg13 : Nat) (pg14 : Nat) (pg15 : Nat) (pg16 : Nat) (pg17 : Nat) (px18 : Int32) : uMi l yX11_bend cX11_bend 2 (some .boolean) { frames := 1, cells := 0, slots := 0, locals := 21 } [.ref ph0, .int px18] D K [(ph0, .inr (11, [.ref ph1, .ref pg2, .ref pg3, .ref pg4, .ref pg5, .ref pg6, .ref pg7, .ref pg8, .ref pg9, .ref pg10, .ref pg11])), (ph1, .inr (9, [.ref pg12, .ref pg13, .ref pg14, .ref pg15, .ref pg16, .ref pg17, .int 4, .int 4, .int 0]))] sz (qkX11_bend_41 ph0 ph1 pg2 pg3 pg4 pg5 pg6 pg7 pg8 pg9 pg10 pg11 pg12 pg13 pg14 pg15 pg16 pg17 px18) (vkX11_bend_41 K ph0 ph1 pg2 pg3 pg4 pg5 pg6 pg7 pg8 pg9 pg10 pg11 pg12 pg13 pg14 pg15 pg16 pg17 px18) := by
  refine uMet (Qc := uQi D (qkX11_bend_41 ph0 ph1 pg2 pg3 pg4 pg5 pg6 pg7 pg8 pg9 pg10 pg11 pg12 pg13 pg14 pg15 pg16 pg17 px18) (vkX11_bend_41 K ph0 ph1 pg2 pg3 pg4 pg5 pg6 pg7 pg8 pg9 pg10 pg11 pg12 pg13 pg14 pg15 pg16 pg17 px18)) (ret := (some .boolean)) (by decide) (Nat.le_of_ble_eq_true rfl) ?_
  intro p e s m below meth c A ls hAe hsz B hP hD hS hl
  have hx := B.1
  have hb := B.2.1
  have hl : lv_has ls 2 [(0, .ref ph0), (1, .int px18)] := hl
  refine lv_aload_n hx hb dX11_bend_0 rfl (lv_at hl 0 rfl) ?_
  refine uGet (ci := 11) (C := RX11) (T := TX11) (N := 11) (v := .ref ph1) B inlX11 hP 0 rfl rfl 0 rfl mfl_X11_10 rfl rfl dX11_bend_1 ?_
  refine lv_iload_n hx hb dX11_bend_4 rfl (lv_at hl 1 rfl) ?_
  refine uVi (As := [.int px18]) (rest := []) (wr := [(ph0, .inr (11, [.ref ph1, .ref pg2, .ref pg3, .ref pg4, .ref pg5, .ref pg6, .ref pg7, .ref pg8, .ref pg9, .ref pg10, .ref pg11]))]) [(ph1, .inr (9, [.ref pg12, .ref pg13, .ref pg14, .ref pg15, .ref pg16, .ref pg17, .int 4, .int 4, .int 0]))] B hl.1 hP hD hS [1] [0] rfl rfl rfl (kX9_curve_40 l D K _ ph1 pg12 pg13 pg14 pg15 pg16 pg17 px18) wd_X9_curve mml_X11_123 rfl rfl rfl rfl ⟨Nat.le_of_ble_eq_true rfl, Nat.le_of_ble_eq_true rfl⟩ (Nat.le_of_ble_eq_true rfl) ⟨Nat.le_of_ble_eq_true rfl, Nat.le_of_ble_eq_true rfl⟩ dX11_bend_5 (fun r1 u H locs hw hP hD hS => ?_)
  obtain ⟨u2, e9⟩ : ∃ y, y = u := ⟨_, rfl⟩
  subst e9
  try dsimp only at hw
  rcases hw with ⟨rfl, rfl, w3⟩ | ⟨rfl, e4, ⟨w5, w6⟩⟩
  · have hP : va_P D vwCl [(ph0, .inr (11, [.ref ph1, .ref pg2, .ref pg3, .ref pg4, .ref pg5, .ref pg6, .ref pg7, .ref pg8, .ref pg9, .ref pg10, .ref pg11])), (ph1, .inr (9, [.ref pg12, .ref pg13, .ref pg14, .ref pg15, .ref pg16, .ref pg17, .int 4, .int 4, .int 0]))] H := hP
    have hD : va_D A [(ph0, .inr (11, [.ref ph1, .ref pg2, .ref pg3, .ref pg4, .ref pg5, .ref pg6, .ref pg7, .ref pg8, .ref pg9, .ref pg10, .ref pg11])), (ph1, .inr (9, [.ref pg12, .ref pg13, .ref pg14, .ref pg15, .ref pg16, .ref pg17, .int 4, .int 4, .int 0]))] := hD
    exact uRz () B rfl (Or.inl ⟨rfl, w3⟩) (uSub hP [] rfl) (hD.sub [] rfl rfl) hS dX11_bend_8
  replace e4 := e4.symm
  subst e4
  have hP : va_P D vwCl [(ph0, .inr (11, [.ref ph1, .ref pg2, .ref pg3, .ref pg4, .ref pg5, .ref pg6, .ref pg7, .ref pg8, .ref pg9, .ref pg10, .ref pg11])), (ph1, .inr (9, [.ref pg12, .ref pg13, .ref pg14, .ref pg15, .ref pg16, .ref pg17, .int 4, .int 4, .int px18]))] H := hP
  have hD : va_D A [(ph0, .inr (11, [.ref ph1, .ref pg2, .ref pg3, .ref pg4, .ref pg5, .ref pg6, .ref pg7, .ref pg8, .ref pg9, .ref pg10, .ref pg11])), (ph1, .inr (9, [.ref pg12, .ref pg13, .ref pg14, .ref pg15, .ref pg16, .ref pg17, .int 4, .int 4, .int px18]))] := hD
  exact uRz () B rfl (Or.inr ⟨rfl, ⟨w5, w6⟩⟩) (uSub hP [] rfl) (hD.sub [] rfl rfl) hS dX11_bend_8
def qkX12_bend_42 (ph0 : Nat) (pg1 : Nat) (pg2 : Nat) (pg3 : Nat) (pg4 : Nat) (pg5 : Nat) (pg6 : Nat) (pg7 : Nat) (pg8 : Nat) (pg9 : Nat) (pg10 : Nat) (pg11 : Nat) (pg12 : Nat) (pg13 : Nat) (pg14 : Nat) (pg15 : Nat) (pg16 : Nat) (pg17 : Nat) (pg18 : Nat) (pg19 : Nat) (pg20 : Nat) (pg21 : Nat) (pg22 : Nat) (pg23 : Nat) (pg24 : Nat) (pg25 : Nat) (pg26 : Nat) (pg27 : Nat) (pg28 : Nat) (pg29 : Nat) (pg30 : Nat) (pg31 : Nat) (pg32 : Nat) (pg33 : Nat) (pg34 : Nat) (pg35 : Nat) (pg36 : Nat) (pg37 : Nat) (pg38 : Nat) (pg39 : Nat) (pg40 : Nat) (pg41 : Nat) (pg42 : Nat) (pg43 : Nat) (pg44 : Nat) (pg45 : Nat) (pg46 : Nat) (pg47 : Nat) (pg48 : Nat) (pg49 : Nat) (pg50 : Nat) (pg51 : Nat) (pg52 : Nat) (pg53 : Nat) (pg54 : Nat) (pg55 : Nat) (pg56 : Nat) (pg57 : Nat) (pg58 : Nat) (pg59 : Nat) (pg60 : Nat) (pg61 : Nat) (pg62 : Nat) (pg63 : Nat) (pg64 : Nat) (pg65 : Nat) (pg66 : Nat) (px67 : Int32) : Int32 → (Unit) → Prop := (fun (r : Int32) (u : Unit) => (r = 0 ∧ ((px67 < 0) ∨ (¬ px67 < 0 ∧ ¬ px67 ≤ 999))) ∨ (r = 1 ∧ (¬ px67 < 0 ∧ px67 ≤ 999)))
def vkX12_bend_42 (K : Nat → ClassId) (ph0 : Nat) (pg1 : Nat) (pg2 : Nat) (pg3 : Nat) (pg4 : Nat) (pg5 : Nat) (pg6 : Nat) (pg7 : Nat) (pg8 : Nat) (pg9 : Nat) (pg10 : Nat) (pg11 : Nat) (pg12 : Nat) (pg13 : Nat) (pg14 : Nat) (pg15 : Nat) (pg16 : Nat) (pg17 : Nat) (pg18 : Nat) (pg19 : Nat) (pg20 : Nat) (pg21 : Nat) (pg22 : Nat) (pg23 : Nat) (pg24 : Nat) (pg25 : Nat) (pg26 : Nat) (pg27 : Nat) (pg28 : Nat) (pg29 : Nat) (pg30 : Nat) (pg31 : Nat) (pg32 : Nat) (pg33 : Nat) (pg34 : Nat) (pg35 : Nat) (pg36 : Nat) (pg37 : Nat) (pg38 : Nat) (pg39 : Nat) (pg40 : Nat) (pg41 : Nat) (pg42 : Nat) (pg43 : Nat) (pg44 : Nat) (pg45 : Nat) (pg46 : Nat) (pg47 : Nat) (pg48 : Nat) (pg49 : Nat) (pg50 : Nat) (pg51 : Nat) (pg52 : Nat) (pg53 : Nat) (pg54 : Nat) (pg55 : Nat) (pg56 : Nat) (pg57 : Nat) (pg58 : Nat) (pg59 : Nat) (pg60 : Nat) (pg61 : Nat) (pg62 : Nat) (pg63 : Nat) (pg64 : Nat) (pg65 : Nat) (pg66 : Nat) (px67 : Int32) : (Unit) → va_W := (fun (u : Unit) => [])
set_option maxHeartbeats 4000000 in
set_option maxRecDepth 100000 in
theorem kX12_bend_42 (l : Launch) (D : va_G) (K : Nat → ClassId) (sz : Nat) (ph0 : Nat) (pg1 : Nat) (pg2 : Nat) (pg3 : Nat) (pg4 : Nat) (pg5 : Nat) (pg6 : Nat) (pg7 : Nat) (pg8 : Nat) (pg9 : Nat) (pg10 : Nat) (pg11 : Nat) (pg12 : Nat) (pg13 : Nat) (pg14 : Nat) (pg15 : Nat) (pg16 : Nat) (pg17 : Nat) (pg18 : Nat) (pg19 : Nat) (pg20 : Nat) (pg21 : Nat) (pg22 : Nat) (pg23 : Nat) (pg24 : Nat) (pg25 : Nat) (pg26 : Nat) (pg27 : Nat) (pg28 : Nat) (pg29 : Nat) (pg30 : Nat) (pg31 : Nat) (pg32 : Nat) (pg33 : Nat) (pg34 : Nat) (pg35 : Nat) (pg36 : Nat) (pg37 : Nat) (pg38 : Nat) (pg39 : Nat) (pg40 : Nat) (pg41 : Nat) (pg42 : Nat) (pg43 : Nat) (pg44 : Nat) (pg45 : Nat) (pg46 : Nat) (pg47 : Nat) (pg48 : Nat) (pg49 : Nat) (pg50 : Nat) (pg51 : Nat) (pg52 : Nat) (pg53 : Nat) (pg54 : Nat) (pg55 : Nat) (pg56 : Nat) (pg57 : Nat) (pg58 : Nat) (pg59 : Nat) (pg60 : Nat) (pg61 : Nat) (pg62 : Nat) (pg63 : Nat) (pg64 : Nat) (pg65 : Nat) (pg66 : Nat) (px67 : Int32) : uMi l yX12_bend cX12_bend 2 (some .boolean) { frames := 0, cells := 0, slots := 0, locals := 0 } [.ref ph0, .int px67] D K [(ph0, .inr (12, [.int 0, .int 4, .int 4, .ref pg1, .ref pg2, .ref pg3, .ref pg4, .int 0, .ref pg5, .ref pg6, .int 0, .ref pg7, .ref pg8, .ref pg9, .ref pg10, .ref pg11, .ref pg12, .ref pg13, .int 0, .ref pg14, .ref pg15, .ref pg16, .ref pg17, .ref pg18, .ref pg19, .int 0, .ref pg20, .int 0, .int 0, .int 0, .ref pg21, .int 0, .int 0, .ref pg22, .int 0, .ref pg23, .ref pg24, .ref pg25, .ref pg26, .ref pg27, .ref pg28, .ref pg29, .ref pg30, .ref pg31, .ref pg32, .ref pg33, .ref pg34, .ref pg35, .ref pg36, .ref pg37, .ref pg38, .ref pg39, .ref pg40, .ref pg41, .ref pg42, .ref pg43, .ref pg44, .ref pg45, .int 0, .int 0, .int 0, .int 0, .int 0, .long 0, .int 0, .int 0, .int 0, .int 0, .int 0, .int (-1), .int 0, .ref pg46, .ref pg47, .ref pg48, .ref pg49, .ref pg50, .int 0, .int 0, .ref pg51, .ref pg52, .ref pg53, .ref pg54, .ref pg55, .ref pg56, .ref pg57, .ref pg58, .int 0, .int 0, .int 0, .int 0, .ref pg59, .ref pg60, .int 0, .ref pg61, .ref pg62, .ref pg63, .ref pg64, .ref pg65, .ref pg66]))] sz (qkX12_bend_42 ph0 pg1 pg2 pg3 pg4 pg5 pg6 pg7 pg8 pg9 pg10 pg11 pg12 pg13 pg14 pg15 pg16 pg17 pg18 pg19 pg20 pg21 pg22 pg23 pg24 pg25 pg26 pg27 pg28 pg29 pg30 pg31 pg32 pg33 pg34 pg35 pg36 pg37 pg38 pg39 pg40 pg41 pg42 pg43 pg44 pg45 pg46 pg47 pg48 pg49 pg50 pg51 pg52 pg53 pg54 pg55 pg56 pg57 pg58 pg59 pg60 pg61 pg62 pg63 pg64 pg65 pg66 px67) (vkX12_bend_42 K ph0 pg1 pg2 pg3 pg4 pg5 pg6 pg7 pg8 pg9 pg10 pg11 pg12 pg13 pg14 pg15 pg16 pg17 pg18 pg19 pg20 pg21 pg22 pg23 pg24 pg25 pg26 pg27 pg28 pg29 pg30 pg31 pg32 pg33 pg34 pg35 pg36 pg37 pg38 pg39 pg40 pg41 pg42 pg43 pg44 pg45 pg46 pg47 pg48 pg49 pg50 pg51 pg52 pg53 pg54 pg55 pg56 pg57 pg58 pg59 pg60 pg61 pg62 pg63 pg64 pg65 pg66 px67) := by
  refine uMet (Qc := uQi D (qkX12_bend_42 ph0 pg1 pg2 pg3 pg4 pg5 pg6 pg7 pg8 pg9 pg10 pg11 pg12 pg13 pg14 pg15 pg16 pg17 pg18 pg19 pg20 pg21 pg22 pg23 pg24 pg25 pg26 pg27 pg28 pg29 pg30 pg31 pg32 pg33 pg34 pg35 pg36 pg37 pg38 pg39 pg40 pg41 pg42 pg43 pg44 pg45 pg46 pg47 pg48 pg49 pg50 pg51 pg52 pg53 pg54 pg55 pg56 pg57 pg58 pg59 pg60 pg61 pg62 pg63 pg64 pg65 pg66 px67) (vkX12_bend_42 K ph0 pg1 pg2 pg3 pg4 pg5 pg6 pg7 pg8 pg9 pg10 pg11 pg12 pg13 pg14 pg15 pg16 pg17 pg18 pg19 pg20 pg21 pg22 pg23 pg24 pg25 pg26 pg27 pg28 pg29 pg30 pg31 pg32 pg33 pg34 pg35 pg36 pg37 pg38 pg39 pg40 pg41 pg42 pg43 pg44 pg45 pg46 pg47 pg48 pg49 pg50 pg51 pg52 pg53 pg54 pg55 pg56 pg57 pg58 pg59 pg60 pg61 pg62 pg63 pg64 pg65 pg66 px67)) (ret := (some .boolean)) (by decide) (Nat.le_of_ble_eq_true rfl) ?_
  intro p e s m below meth c A ls hAe hsz B hP hD hS hl
  have hx := B.1
  have hb := B.2.1
  have hl : lv_has ls 2 [(0, .ref ph0), (1, .int px67)] := hl
  refine lv_aload_n hx hb dX12_bend_0 rfl (lv_at hl 0 rfl) ?_
  refine lv_iconst (v := 0) hx hb dX12_bend_1 (by decide) ?_
  refine uPut (ci := 12) (C := RX12) (T := TX12) (N := 99) (ws' := [(ph0, .inr (12, [.int 0, .int 4, .int 4, .ref pg1, .ref pg2, .ref pg3, .ref pg4, .int 0, .ref pg5, .ref pg6, .int 0, .ref pg7, .ref pg8, .ref pg9, .ref pg10, .ref pg11, .ref pg12, .ref pg13, .int 0, .ref pg14, .ref pg15, .ref pg16, .ref pg17, .ref pg18, .ref pg19, .int 0, .ref pg20, .int 0, .int 0, .int 0, .ref pg21, .int 0, .int 0, .ref pg22, .int 0, .ref pg23, .ref pg24, .ref pg25, .ref pg26, .ref pg27, .ref pg28, .ref pg29, .ref pg30, .ref pg31, .ref pg32, .ref pg33, .ref pg34, .ref pg35, .ref pg36, .ref pg37, .ref pg38, .ref pg39, .ref pg40, .ref pg41, .ref pg42, .ref pg43, .ref pg44, .ref pg45, .int 0, .int 0, .int 0, .int 0, .int 0, .long 0, .int 0, .int 0, .int 0, .int 0, .int 0, .int (-1), .int 0, .ref pg46, .ref pg47, .ref pg48, .ref pg49, .ref pg50, .int 0, .int 0, .ref pg51, .ref pg52, .ref pg53, .ref pg54, .ref pg55, .ref pg56, .ref pg57, .ref pg58, .int 0, .int 0, .int 0, .int 0, .ref pg59, .ref pg60, .int 0, .ref pg61, .ref pg62, .ref pg63, .ref pg64, .ref pg65, .ref pg66]))]) B inlX12 tyX12_ok nmX12 hP hD hS 0 rfl rfl 0 rfl mfl_X12_224 rfl rfl rfl rfl rfl rfl dX12_bend_2 (fun H locs hP hD hS => ?_)
  refine lv_iload_n hx hb dX12_bend_5 rfl (lv_at hl 1 rfl) ?_
  refine lv_if_lt (tgt := 16) hx hb dX12_bend_6 (by decide) (fun c1 => ?_) (fun c1 => ?_)
  · refine lv_pc (q := 16) rfl ?_
    refine lv_iconst (v := 0) hx hb dX12_bend_16 (by decide) ?_
    exact uRz () B rfl (Or.inl ⟨rfl, Or.inl c1⟩) (uSub hP [] rfl) (hD.sub [] rfl rfl) hS dX12_bend_17
  refine lv_pc (q := 9) rfl ?_
  refine lv_iload_n hx hb dX12_bend_9 rfl (lv_at hl 1 rfl) ?_
  refine lv_sipush (v := 999) hx hb dX12_bend_10 (by decide) ?_
  refine lv_icmp_le (tgt := 18) hx hb dX12_bend_13 (by decide) (fun c2 => ?_) (fun c2 => ?_)
  · refine lv_aload_n hx hb dX12_bend_18 rfl (lv_at hl 0 rfl) ?_
    refine lv_iload_n hx hb dX12_bend_19 rfl (lv_at hl 1 rfl) ?_
    refine uPut (ci := 12) (C := RX12) (T := TX12) (N := 99) (ws' := [(ph0, .inr (12, [.int 0, .int 4, .int 4, .ref pg1, .ref pg2, .ref pg3, .ref pg4, .int px67, .ref pg5, .ref pg6, .int 0, .ref pg7, .ref pg8, .ref pg9, .ref pg10, .ref pg11, .ref pg12, .ref pg13, .int 0, .ref pg14, .ref pg15, .ref pg16, .ref pg17, .ref pg18, .ref pg19, .int 0, .ref pg20, .int 0, .int 0, .int 0, .ref pg21, .int 0, .int 0, .ref pg22, .int 0, .ref pg23, .ref pg24, .ref pg25, .ref pg26, .ref pg27, .ref pg28, .ref pg29, .ref pg30, .ref pg31, .ref pg32, .ref pg33, .ref pg34, .ref pg35, .ref pg36, .ref pg37, .ref pg38, .ref pg39, .ref pg40, .ref pg41, .ref pg42, .ref pg43, .ref pg44, .ref pg45, .int 0, .int 0, .int 0, .int 0, .int 0, .long 0, .int 0, .int 0, .int 0, .int 0, .int 0, .int (-1), .int 0, .ref pg46, .ref pg47, .ref pg48, .ref pg49, .ref pg50, .int 0, .int 0, .ref pg51, .ref pg52, .ref pg53, .ref pg54, .ref pg55, .ref pg56, .ref pg57, .ref pg58, .int 0, .int 0, .int 0, .int 0, .ref pg59, .ref pg60, .int 0, .ref pg61, .ref pg62, .ref pg63, .ref pg64, .ref pg65, .ref pg66]))]) B inlX12 tyX12_ok nmX12 hP hD hS 0 rfl rfl 7 rfl mfl_X12_243 rfl rfl rfl rfl rfl rfl dX12_bend_20 (fun H locs hP hD hS => ?_)
    refine lv_pc (q := 23) rfl ?_
    refine lv_iconst (v := 1) hx hb dX12_bend_23 (by decide) ?_
    exact uRz () B rfl (Or.inr ⟨rfl, ⟨c1, c2⟩⟩) (uSub hP [] rfl) (hD.sub [] rfl rfl) hS dX12_bend_24
  refine lv_iconst (v := 0) hx hb dX12_bend_16 (by decide) ?_
  exact uRz () B rfl (Or.inl ⟨rfl, Or.inr ⟨c1, c2⟩⟩) (uSub hP [] rfl) (hD.sub [] rfl rfl) hS dX12_bend_17
def qkX11_isSeason_43 (px0 : Int32) (px1 : Int32) : Int32 → (Unit) → Prop := (fun (r : Int32) (u : Unit) => (r = 0 ∧ ((px0 < 0) ∨ (¬ px0 < 0 ∧ 12 ≤ px0) ∨ (¬ px0 < 0 ∧ ¬ 12 ≤ px0 ∧ px1 < 0) ∨ (¬ px0 < 0 ∧ ¬ 12 ≤ px0 ∧ ¬ px1 < 0 ∧ 2 ≤ px1))) ∨ (r = 1 ∧ (¬ px0 < 0 ∧ ¬ 12 ≤ px0 ∧ ¬ px1 < 0 ∧ ¬ 2 ≤ px1)))
def vkX11_isSeason_43 (K : Nat → ClassId) (px0 : Int32) (px1 : Int32) : (Unit) → va_W := (fun (u : Unit) => [])
set_option maxHeartbeats 4000000 in
set_option maxRecDepth 100000 in
theorem kX11_isSeason_43 (l : Launch) (D : va_G) (K : Nat → ClassId) (sz : Nat) (px0 : Int32) (px1 : Int32) : uMi l yX11_isSeason cX11_isSeason 2 (some .boolean) { frames := 0, cells := 0, slots := 0, locals := 0 } [.int px0, .int px1] D K [] sz (qkX11_isSeason_43 px0 px1) (vkX11_isSeason_43 K px0 px1) := by
  refine uMet (Qc := uQi D (qkX11_isSeason_43 px0 px1) (vkX11_isSeason_43 K px0 px1)) (ret := (some .boolean)) (by decide) (Nat.le_of_ble_eq_true rfl) ?_
  intro p e s m below meth c A ls hAe hsz B hP hD hS hl
  have hx := B.1
  have hb := B.2.1
  have hl : lv_has ls 2 [(0, .int px0), (1, .int px1)] := hl
  refine lv_iload_n hx hb dX11_isSeason_0 rfl (lv_at hl 0 rfl) ?_
  refine lv_if_lt (tgt := 23) hx hb dX11_isSeason_1 (by decide) (fun c1 => ?_) (fun c1 => ?_)
  · refine lv_iconst (v := 0) hx hb dX11_isSeason_23 (by decide) ?_
    exact uRz () B rfl (Or.inl ⟨rfl, Or.inl c1⟩) (uSub hP [] rfl) (hD.sub [] rfl rfl) hS dX11_isSeason_24
  refine lv_iload_n hx hb dX11_isSeason_4 rfl (lv_at hl 0 rfl) ?_
  refine lv_bipush (v := 12) hx hb dX11_isSeason_5 (by decide) ?_
  refine lv_icmp_ge (tgt := 23) hx hb dX11_isSeason_7 (by decide) (fun c2 => ?_) (fun c2 => ?_)
  · refine lv_pc (q := 23) rfl ?_
    refine lv_iconst (v := 0) hx hb dX11_isSeason_23 (by decide) ?_
    exact uRz () B rfl (Or.inl ⟨rfl, Or.inr (Or.inl ⟨c1, c2⟩)⟩) (uSub hP [] rfl) (hD.sub [] rfl rfl) hS dX11_isSeason_24
  refine lv_pc (q := 10) rfl ?_
  refine lv_iload_n hx hb dX11_isSeason_10 rfl (lv_at hl 1 rfl) ?_
  refine lv_if_lt (tgt := 23) hx hb dX11_isSeason_11 (by decide) (fun c3 => ?_) (fun c3 => ?_)
  · refine lv_iconst (v := 0) hx hb dX11_isSeason_23 (by decide) ?_
    exact uRz () B rfl (Or.inl ⟨rfl, Or.inr (Or.inr (Or.inl ⟨c1, c2, c3⟩))⟩) (uSub hP [] rfl) (hD.sub [] rfl rfl) hS dX11_isSeason_24
  refine lv_iload_n hx hb dX11_isSeason_14 rfl (lv_at hl 1 rfl) ?_
  refine lv_iconst (v := 2) hx hb dX11_isSeason_15 (by decide) ?_
  refine lv_icmp_ge (tgt := 23) hx hb dX11_isSeason_16 (by decide) (fun c4 => ?_) (fun c4 => ?_)
  · refine lv_iconst (v := 0) hx hb dX11_isSeason_23 (by decide) ?_
    refine lv_pc (q := 24) rfl ?_
    exact uRz () B rfl (Or.inl ⟨rfl, Or.inr (Or.inr (Or.inr ⟨c1, c2, c3, c4⟩))⟩) (uSub hP [] rfl) (hD.sub [] rfl rfl) hS dX11_isSeason_24
  refine lv_iconst (v := 1) hx hb dX11_isSeason_19 (by decide) ?_
  refine lv_pc (q := 20) rfl ?_
  refine lv_goto (tgt := 24) hx hb dX11_isSeason_20 (by decide) ?_
  exact uRz () B rfl (Or.inr ⟨rfl, ⟨c1, c2, c3, c4⟩⟩) (uSub hP [] rfl) (hD.sub [] rfl rfl) hS dX11_isSeason_24
def qkX9_veil_44 (ph0 : Nat) (ph1 : Nat) (ph2 : Nat) (pg3 : Nat) (pg4 : Nat) (pg5 : Nat) (pg6 : Nat) (pf7 : Nat → Int32) (pf8 : Nat → Int32) (px9 : Int32) (px10 : Int32) (px11 : Int32) (px12 : Int32) : Int32 → ((Nat → Int32) × (Nat → Int32)) → Prop := (fun (r : Int32) (u : (Nat → Int32) × (Nat → Int32)) => (r = 0 ∧ ((((px9 < 0) ∨ (¬ px9 < 0 ∧ 12 ≤ px9) ∨ (¬ px9 < 0 ∧ ¬ 12 ≤ px9 ∧ px10 < 0) ∨ (¬ px9 < 0 ∧ ¬ 12 ≤ px9 ∧ ¬ px10 < 0 ∧ 2 ≤ px10))) ∨ (¬ px9 < 0 ∧ ¬ 12 ≤ px9 ∧ ¬ px10 < 0 ∧ ¬ 2 ≤ px10 ∧ px11 < 0) ∨ (¬ px9 < 0 ∧ ¬ 12 ≤ px9 ∧ ¬ px10 < 0 ∧ ¬ 2 ≤ px10 ∧ ¬ px11 < 0 ∧ px12 < px11) ∨ (¬ px9 < 0 ∧ ¬ 12 ≤ px9 ∧ ¬ px10 < 0 ∧ ¬ 2 ≤ px10 ∧ ¬ px11 < 0 ∧ ¬ px12 < px11 ∧ ¬ px12 ≤ 30))) ∨ (r = 1 ∧ (¬ px9 < 0 ∧ ¬ 12 ≤ px9 ∧ ¬ px10 < 0 ∧ ¬ 2 ≤ px10 ∧ ¬ px11 < 0 ∧ ¬ px12 < px11 ∧ px12 ≤ 30)))
def vkX9_veil_44 (K : Nat → ClassId) (ph0 : Nat) (ph1 : Nat) (ph2 : Nat) (pg3 : Nat) (pg4 : Nat) (pg5 : Nat) (pg6 : Nat) (pf7 : Nat → Int32) (pf8 : Nat → Int32) (px9 : Int32) (px10 : Int32) (px11 : Int32) (px12 : Int32) : ((Nat → Int32) × (Nat → Int32)) → va_W := (fun (u : (Nat → Int32) × (Nat → Int32)) => [(ph0, .inr (9, [.ref pg3, .ref pg4, .ref pg5, .ref pg6, .ref ph1, .ref ph2, .int 4, .int 4, .int 0])), (ph1, .inl (K 0, 24, .inl (u.1))), (ph2, .inl (K 0, 24, .inl (u.2)))])
set_option maxHeartbeats 4000000 in
set_option maxRecDepth 100000 in
theorem kX9_veil_44 (l : Launch) (D : va_G) (K : Nat → ClassId) (sz : Nat) (ph0 : Nat) (ph1 : Nat) (ph2 : Nat) (pg3 : Nat) (pg4 : Nat) (pg5 : Nat) (pg6 : Nat) (pf7 : Nat → Int32) (pf8 : Nat → Int32) (px9 : Int32) (px10 : Int32) (px11 : Int32) (px12 : Int32) : uMi l yX9_veil cX9_veil 5 (some .boolean) { frames := 1, cells := 0, slots := 0, locals := 21 } [.ref ph0, .int px9, .int px10, .int px11, .int px12] D K [(ph0, .inr (9, [.ref pg3, .ref pg4, .ref pg5, .ref pg6, .ref ph1, .ref ph2, .int 4, .int 4, .int 0])), (ph1, .inl (K 0, 24, .inl pf7)), (ph2, .inl (K 0, 24, .inl pf8))] sz (qkX9_veil_44 ph0 ph1 ph2 pg3 pg4 pg5 pg6 pf7 pf8 px9 px10 px11 px12) (vkX9_veil_44 K ph0 ph1 ph2 pg3 pg4 pg5 pg6 pf7 pf8 px9 px10 px11 px12) := by
  refine uMet (Qc := uQi D (qkX9_veil_44 ph0 ph1 ph2 pg3 pg4 pg5 pg6 pf7 pf8 px9 px10 px11 px12) (vkX9_veil_44 K ph0 ph1 ph2 pg3 pg4 pg5 pg6 pf7 pf8 px9 px10 px11 px12)) (ret := (some .boolean)) (by decide) (Nat.le_of_ble_eq_true rfl) ?_
  intro p e s m below meth c A ls hAe hsz B hP hD hS hl
  have hx := B.1
  have hb := B.2.1
  have hl : lv_has ls 5 [(0, .ref ph0), (1, .int px9), (2, .int px10), (3, .int px11), (4, .int px12)] := hl
  refine lv_iload_n hx hb dX9_veil_0 rfl (lv_at hl 1 rfl) ?_
  refine lv_iload_n hx hb dX9_veil_1 rfl (lv_at hl 2 rfl) ?_
  refine uSNi (As := [.int px9, .int px10]) (rest := []) (wr := [(ph0, .inr (9, [.ref pg3, .ref pg4, .ref pg5, .ref pg6, .ref ph1, .ref ph2, .int 4, .int 4, .int 0])), (ph1, .inl (K 0, 24, .inl pf7)), (ph2, .inl (K 0, 24, .inl pf8))]) [] B hl.1 hP hD hS [] [0, 1, 2] rfl rfl rfl (kX11_isSeason_43 l D K _ px9 px10) wd_X11_isSeason (uN4 B) rfl rfl ⟨Nat.le_of_ble_eq_true rfl, Nat.le_of_ble_eq_true rfl⟩ (Nat.le_of_ble_eq_true rfl) ⟨Nat.le_of_ble_eq_true rfl, Nat.le_of_ble_eq_true rfl⟩ dX9_veil_2 (fun r1 u H locs hw hP hD hS => ?_)
  try dsimp only at hw
  rcases hw with ⟨rfl, w2⟩ | ⟨rfl, ⟨w3, w4, w5, w6⟩⟩
  · have hP : va_P D vwCl [(ph0, .inr (9, [.ref pg3, .ref pg4, .ref pg5, .ref pg6, .ref ph1, .ref ph2, .int 4, .int 4, .int 0])), (ph1, .inl (K 0, 24, .inl pf7)), (ph2, .inl (K 0, 24, .inl pf8))] H := hP
    have hD : va_D A [(ph0, .inr (9, [.ref pg3, .ref pg4, .ref pg5, .ref pg6, .ref ph1, .ref ph2, .int 4, .int 4, .int 0])), (ph1, .inl (K 0, 24, .inl pf7)), (ph2, .inl (K 0, 24, .inl pf8))] := hD
    refine lv_if_eq (tgt := 25) hx hb dX9_veil_5 (by decide) (fun _ => ?_) (fun h9 => absurd (by decide) h9)
    refine lv_iconst (v := 0) hx hb dX9_veil_25 (by decide) ?_
    refine lv_pc (q := 26) rfl ?_
    exact uRz (pf7, pf8) B rfl (Or.inl ⟨rfl, Or.inl w2⟩) (uSub hP [0, 1, 2] rfl) (hD.sub [0, 1, 2] rfl rfl) hS dX9_veil_26
  have hP : va_P D vwCl [(ph0, .inr (9, [.ref pg3, .ref pg4, .ref pg5, .ref pg6, .ref ph1, .ref ph2, .int 4, .int 4, .int 0])), (ph1, .inl (K 0, 24, .inl pf7)), (ph2, .inl (K 0, 24, .inl pf8))] H := hP
  have hD : va_D A [(ph0, .inr (9, [.ref pg3, .ref pg4, .ref pg5, .ref pg6, .ref ph1, .ref ph2, .int 4, .int 4, .int 0])), (ph1, .inl (K 0, 24, .inl pf7)), (ph2, .inl (K 0, 24, .inl pf8))] := hD
  refine lv_if_eq (tgt := 25) hx hb dX9_veil_5 (by decide) (fun h9 => absurd h9 (by decide)) (fun _ => ?_)
  refine lv_iload_n hx hb dX9_veil_8 rfl (lv_at hl 3 rfl) ?_
  refine lv_pc (q := 9) rfl ?_
  refine lv_if_lt (tgt := 25) hx hb dX9_veil_9 (by decide) (fun c7 => ?_) (fun c7 => ?_)
  · refine lv_iconst (v := 0) hx hb dX9_veil_25 (by decide) ?_
    exact uRz (pf7, pf8) B rfl (Or.inl ⟨rfl, Or.inr (Or.inl ⟨w3, w4, w5, w6, c7⟩)⟩) (uSub hP [0, 1, 2] rfl) (hD.sub [0, 1, 2] rfl rfl) hS dX9_veil_26
  refine lv_iload_n hx hb dX9_veil_12 rfl (lv_at hl 3 rfl) ?_
  refine lv_iload hx hb dX9_veil_13 (lv_at hl 4 rfl) ?_
  refine lv_icmp_gt (tgt := 25) hx hb dX9_veil_15 (by decide) (fun c8 => ?_) (fun c8 => ?_)
  · refine lv_iconst (v := 0) hx hb dX9_veil_25 (by decide) ?_
    exact uRz (pf7, pf8) B rfl (Or.inl ⟨rfl, Or.inr (Or.inr (Or.inl ⟨w3, w4, w5, w6, c7, c8⟩))⟩) (uSub hP [0, 1, 2] rfl) (hD.sub [0, 1, 2] rfl rfl) hS dX9_veil_26
  refine lv_iload hx hb dX9_veil_18 (lv_at hl 4 rfl) ?_
  refine lv_bipush (v := 30) hx hb dX9_veil_20 (by decide) ?_
  refine lv_pc (q := 22) rfl ?_
  refine lv_icmp_le (tgt := 27) hx hb dX9_veil_22 (by decide) (fun c9 => ?_) (fun c9 => ?_)
  · obtain ⟨a10, ha10, ea10⟩ : ∃ a : Nat, a < 12 ∧ px9 = nI a := uNat (by simp only [fa_lt, fa_le, fa_eq, Int32.reduceToInt] at w3 w4; omega) (by simp only [fa_lt, fa_le, fa_eq, Int32.reduceToInt] at w3 w4; omega) (by decide)
    obtain ⟨a11, ha11, ea11⟩ : ∃ a : Nat, a < 2 ∧ px10 = nI a := uNat (by simp only [fa_lt, fa_le, fa_eq, Int32.reduceToInt] at w5 w6; omega) (by simp only [fa_lt, fa_le, fa_eq, Int32.reduceToInt] at w5 w6; omega) (by decide)
    refine lv_aload_n hx hb dX9_veil_27 rfl (lv_at hl 0 rfl) ?_
    refine uGet (ci := 9) (C := RX9) (T := TX9) (N := 9) (v := .ref ph1) B inlX9 hP 0 rfl rfl 4 rfl mfl_X9_24 rfl rfl dX9_veil_28 ?_
    refine lv_iload_n hx hb dX9_veil_31 rfl (lv_at hl 1 rfl) ?_
    refine lv_fixi (y := (nI a10)) ea10 ?_
    refine lv_iconst (v := 2) hx hb dX9_veil_32 (by decide) ?_
    refine lv_imul hx hb dX9_veil_33 ?_
    refine lv_fixi (y := (nI (a10 * 2))) (by rw [show (2 : Int32) = nI 2 from rfl, pk_mul]) ?_
    refine lv_pc (q := 34) rfl ?_
    refine lv_iload_n hx hb dX9_veil_34 rfl (lv_at hl 2 rfl) ?_
    refine lv_fixi (y := (nI a11)) ea11 ?_
    refine lv_iadd hx hb dX9_veil_35 ?_
    refine lv_fixi (y := (nI ((a10 * 2) + a11))) (by rw [nI_add]) ?_
    refine lv_iload_n hx hb dX9_veil_36 rfl (lv_at hl 3 rfl) ?_
    refine uIast (i := (nI ((a10 * 2) + a11))) (j := (a10 * 2) + a11) (ws' := [(ph0, .inr (9, [.ref pg3, .ref pg4, .ref pg5, .ref pg6, .ref ph1, .ref ph2, .int 4, .int 4, .int 0])), (ph1, .inl (K 0, 24, .inl (upd pf7 ((a10 * 2) + a11) px11))), (ph2, .inl (K 0, 24, .inl pf8))]) B hP hD hS 1 rfl (nI_in (by omega) (by omega)) (nI_clamp (by omega)) rfl dX9_veil_37 (fun H locs hP hD hS => ?_)
    refine lv_aload_n hx hb dX9_veil_38 rfl (lv_at hl 0 rfl) ?_
    refine uGet (ci := 9) (C := RX9) (T := TX9) (N := 9) (v := .ref ph2) B inlX9 hP 0 rfl rfl 5 rfl mfl_X9_27 rfl rfl dX9_veil_39 ?_
    refine lv_pc (q := 42) rfl ?_
    refine lv_iload_n hx hb dX9_veil_42 rfl (lv_at hl 1 rfl) ?_
    refine lv_fixi (y := (nI a10)) ea10 ?_
    refine lv_iconst (v := 2) hx hb dX9_veil_43 (by decide) ?_
    refine lv_imul hx hb dX9_veil_44 ?_
    refine lv_fixi (y := (nI (a10 * 2))) (by rw [show (2 : Int32) = nI 2 from rfl, pk_mul]) ?_
    refine lv_iload_n hx hb dX9_veil_45 rfl (lv_at hl 2 rfl) ?_
    refine lv_fixi (y := (nI a11)) ea11 ?_
    refine lv_iadd hx hb dX9_veil_46 ?_
    refine lv_fixi (y := (nI ((a10 * 2) + a11))) (by rw [nI_add]) ?_
    refine lv_iload hx hb dX9_veil_47 (lv_at hl 4 rfl) ?_
    refine lv_pc (q := 49) rfl ?_
    refine uIast (i := (nI ((a10 * 2) + a11))) (j := (a10 * 2) + a11) (ws' := [(ph0, .inr (9, [.ref pg3, .ref pg4, .ref pg5, .ref pg6, .ref ph1, .ref ph2, .int 4, .int 4, .int 0])), (ph1, .inl (K 0, 24, .inl (upd pf7 ((a10 * 2) + a11) px11))), (ph2, .inl (K 0, 24, .inl (upd pf8 ((a10 * 2) + a11) px12)))]) B hP hD hS 2 rfl (nI_in (by omega) (by omega)) (nI_clamp (by omega)) rfl dX9_veil_49 (fun H locs hP hD hS => ?_)
    refine lv_iconst (v := 1) hx hb dX9_veil_50 (by decide) ?_
    exact uRz (upd pf7 ((a10 * 2) + a11) px11, upd pf8 ((a10 * 2) + a11) px12) B rfl (Or.inr ⟨rfl, ⟨w3, w4, w5, w6, c7, c8, c9⟩⟩) (uSub hP [0, 1, 2] rfl) (hD.sub [0, 1, 2] rfl rfl) hS dX9_veil_51
  refine lv_iconst (v := 0) hx hb dX9_veil_25 (by decide) ?_
  exact uRz (pf7, pf8) B rfl (Or.inl ⟨rfl, Or.inr (Or.inr (Or.inr ⟨w3, w4, w5, w6, c7, c8, c9⟩))⟩) (uSub hP [0, 1, 2] rfl) (hD.sub [0, 1, 2] rfl rfl) hS dX9_veil_26
def qkX11_haze_45 (ph0 : Nat) (ph1 : Nat) (ph2 : Nat) (ph3 : Nat) (pg4 : Nat) (pg5 : Nat) (pg6 : Nat) (pg7 : Nat) (pg8 : Nat) (pg9 : Nat) (pg10 : Nat) (pg11 : Nat) (pg12 : Nat) (pg13 : Nat) (pg14 : Nat) (pg15 : Nat) (pg16 : Nat) (pg17 : Nat) (pf18 : Nat → Int32) (pf19 : Nat → Int32) (px20 : Int32) (px21 : Int32) (px22 : Int32) (px23 : Int32) : Int32 → (Unit) → Prop := (fun (r : Int32) (u : Unit) => (r = 0 ∧ (((((px20 < 0) ∨ (¬ px20 < 0 ∧ 12 ≤ px20) ∨ (¬ px20 < 0 ∧ ¬ 12 ≤ px20 ∧ px21 < 0) ∨ (¬ px20 < 0 ∧ ¬ 12 ≤ px20 ∧ ¬ px21 < 0 ∧ 2 ≤ px21))) ∨ (¬ px20 < 0 ∧ ¬ 12 ≤ px20 ∧ ¬ px21 < 0 ∧ ¬ 2 ≤ px21 ∧ px22 < 0) ∨ (¬ px20 < 0 ∧ ¬ 12 ≤ px20 ∧ ¬ px21 < 0 ∧ ¬ 2 ≤ px21 ∧ ¬ px22 < 0 ∧ px23 < px22) ∨ (¬ px20 < 0 ∧ ¬ 12 ≤ px20 ∧ ¬ px21 < 0 ∧ ¬ 2 ≤ px21 ∧ ¬ px22 < 0 ∧ ¬ px23 < px22 ∧ ¬ px23 ≤ 30)))) ∨ (r = 1 ∧ (¬ px20 < 0 ∧ ¬ 12 ≤ px20 ∧ ¬ px21 < 0 ∧ ¬ 2 ≤ px21 ∧ ¬ px22 < 0 ∧ ¬ px23 < px22 ∧ px23 ≤ 30)))
def vkX11_haze_45 (K : Nat → ClassId) (ph0 : Nat) (ph1 : Nat) (ph2 : Nat) (ph3 : Nat) (pg4 : Nat) (pg5 : Nat) (pg6 : Nat) (pg7 : Nat) (pg8 : Nat) (pg9 : Nat) (pg10 : Nat) (pg11 : Nat) (pg12 : Nat) (pg13 : Nat) (pg14 : Nat) (pg15 : Nat) (pg16 : Nat) (pg17 : Nat) (pf18 : Nat → Int32) (pf19 : Nat → Int32) (px20 : Int32) (px21 : Int32) (px22 : Int32) (px23 : Int32) : (Unit) → va_W := (fun (u : Unit) => [])
set_option maxHeartbeats 4000000 in
set_option maxRecDepth 100000 in
theorem kX11_haze_45 (l : Launch) (D : va_G) (K : Nat → ClassId) (sz : Nat) (ph0 : Nat) (ph1 : Nat) (ph2 : Nat) (ph3 : Nat) (pg4 : Nat) (pg5 : Nat) (pg6 : Nat) (pg7 : Nat) (pg8 : Nat) (pg9 : Nat) (pg10 : Nat) (pg11 : Nat) (pg12 : Nat) (pg13 : Nat) (pg14 : Nat) (pg15 : Nat) (pg16 : Nat) (pg17 : Nat) (pf18 : Nat → Int32) (pf19 : Nat → Int32) (px20 : Int32) (px21 : Int32) (px22 : Int32) (px23 : Int32) : uMi l yX11_haze cX11_haze 5 (some .boolean) { frames := 2, cells := 0, slots := 0, locals := 45 } [.ref ph0, .int px20, .int px21, .int px22, .int px23] D K [(ph0, .inr (11, [.ref ph1, .ref pg4, .ref pg5, .ref pg6, .ref pg7, .ref pg8, .ref pg9, .ref pg10, .ref pg11, .ref pg12, .ref pg13])), (ph1, .inr (9, [.ref pg14, .ref pg15, .ref pg16, .ref pg17, .ref ph2, .ref ph3, .int 4, .int 4, .int 0])), (ph2, .inl (K 0, 24, .inl pf18)), (ph3, .inl (K 0, 24, .inl pf19))] sz (qkX11_haze_45 ph0 ph1 ph2 ph3 pg4 pg5 pg6 pg7 pg8 pg9 pg10 pg11 pg12 pg13 pg14 pg15 pg16 pg17 pf18 pf19 px20 px21 px22 px23) (vkX11_haze_45 K ph0 ph1 ph2 ph3 pg4 pg5 pg6 pg7 pg8 pg9 pg10 pg11 pg12 pg13 pg14 pg15 pg16 pg17 pf18 pf19 px20 px21 px22 px23) := by
  refine uMet (Qc := uQi D (qkX11_haze_45 ph0 ph1 ph2 ph3 pg4 pg5 pg6 pg7 pg8 pg9 pg10 pg11 pg12 pg13 pg14 pg15 pg16 pg17 pf18 pf19 px20 px21 px22 px23) (vkX11_haze_45 K ph0 ph1 ph2 ph3 pg4 pg5 pg6 pg7 pg8 pg9 pg10 pg11 pg12 pg13 pg14 pg15 pg16 pg17 pf18 pf19 px20 px21 px22 px23)) (ret := (some .boolean)) (by decide) (Nat.le_of_ble_eq_true rfl) ?_
  intro p e s m below meth c A ls hAe hsz B hP hD hS hl
  have hx := B.1
  have hb := B.2.1
  have hl : lv_has ls 5 [(0, .ref ph0), (1, .int px20), (2, .int px21), (3, .int px22), (4, .int px23)] := hl
  refine lv_aload_n hx hb dX11_haze_0 rfl (lv_at hl 0 rfl) ?_
  refine uGet (ci := 11) (C := RX11) (T := TX11) (N := 11) (v := .ref ph1) B inlX11 hP 0 rfl rfl 0 rfl mfl_X11_10 rfl rfl dX11_haze_1 ?_
  refine lv_iload_n hx hb dX11_haze_4 rfl (lv_at hl 1 rfl) ?_
  refine lv_iload_n hx hb dX11_haze_5 rfl (lv_at hl 2 rfl) ?_
  refine lv_iload_n hx hb dX11_haze_6 rfl (lv_at hl 3 rfl) ?_
  refine lv_pc (q := 7) rfl ?_
  refine lv_iload hx hb dX11_haze_7 (lv_at hl 4 rfl) ?_
  refine uVi (As := [.int px20, .int px21, .int px22, .int px23]) (rest := []) (wr := [(ph0, .inr (11, [.ref ph1, .ref pg4, .ref pg5, .ref pg6, .ref pg7, .ref pg8, .ref pg9, .ref pg10, .ref pg11, .ref pg12, .ref pg13]))]) [(ph1, .inr (9, [.ref pg14, .ref pg15, .ref pg16, .ref pg17, .ref ph2, .ref ph3, .int 4, .int 4, .int 0])), (ph2, .inl (K 0, 24, .inl pf18)), (ph3, .inl (K 0, 24, .inl pf19))] B hl.1 hP hD hS [1, 2, 3] [0] rfl rfl rfl (kX9_veil_44 l D K _ ph1 ph2 ph3 pg14 pg15 pg16 pg17 pf18 pf19 px20 px21 px22 px23) wd_X9_veil mml_X11_127 rfl rfl rfl rfl ⟨Nat.le_of_ble_eq_true rfl, Nat.le_of_ble_eq_true rfl⟩ (Nat.le_of_ble_eq_true rfl) ⟨Nat.le_of_ble_eq_true rfl, Nat.le_of_ble_eq_true rfl⟩ dX11_haze_9 (fun r1 u H locs hw hP hD hS => ?_)
  obtain ⟨u2, u3⟩ := u
  try dsimp only at hw
  rcases hw with ⟨rfl, w4⟩ | ⟨rfl, ⟨w5, w6, w7, w8, w9, w10, w11⟩⟩
  · have hP : va_P D vwCl [(ph0, .inr (11, [.ref ph1, .ref pg4, .ref pg5, .ref pg6, .ref pg7, .ref pg8, .ref pg9, .ref pg10, .ref pg11, .ref pg12, .ref pg13])), (ph1, .inr (9, [.ref pg14, .ref pg15, .ref pg16, .ref pg17, .ref ph2, .ref ph3, .int 4, .int 4, .int 0])), (ph2, .inl (K 0, 24, .inl u2)), (ph3, .inl (K 0, 24, .inl u3))] H := hP
    have hD : va_D A [(ph0, .inr (11, [.ref ph1, .ref pg4, .ref pg5, .ref pg6, .ref pg7, .ref pg8, .ref pg9, .ref pg10, .ref pg11, .ref pg12, .ref pg13])), (ph1, .inr (9, [.ref pg14, .ref pg15, .ref pg16, .ref pg17, .ref ph2, .ref ph3, .int 4, .int 4, .int 0])), (ph2, .inl (K 0, 24, .inl u2)), (ph3, .inl (K 0, 24, .inl u3))] := hD
    exact uRz () B rfl (Or.inl ⟨rfl, w4⟩) (uSub hP [] rfl) (hD.sub [] rfl rfl) hS dX11_haze_12
  have hP : va_P D vwCl [(ph0, .inr (11, [.ref ph1, .ref pg4, .ref pg5, .ref pg6, .ref pg7, .ref pg8, .ref pg9, .ref pg10, .ref pg11, .ref pg12, .ref pg13])), (ph1, .inr (9, [.ref pg14, .ref pg15, .ref pg16, .ref pg17, .ref ph2, .ref ph3, .int 4, .int 4, .int 0])), (ph2, .inl (K 0, 24, .inl u2)), (ph3, .inl (K 0, 24, .inl u3))] H := hP
  have hD : va_D A [(ph0, .inr (11, [.ref ph1, .ref pg4, .ref pg5, .ref pg6, .ref pg7, .ref pg8, .ref pg9, .ref pg10, .ref pg11, .ref pg12, .ref pg13])), (ph1, .inr (9, [.ref pg14, .ref pg15, .ref pg16, .ref pg17, .ref ph2, .ref ph3, .int 4, .int 4, .int 0])), (ph2, .inl (K 0, 24, .inl u2)), (ph3, .inl (K 0, 24, .inl u3))] := hD
  exact uRz () B rfl (Or.inr ⟨rfl, ⟨w5, w6, w7, w8, w9, w10, w11⟩⟩) (uSub hP [] rfl) (hD.sub [] rfl rfl) hS dX11_haze_12
def qkX12_isTime_46 (px0 : Int32) (px1 : Int32) : Int32 → (Unit) → Prop := (fun (r : Int32) (u : Unit) => (r = 0 ∧ ((px0 < 0) ∨ (¬ px0 < 0 ∧ 11 < px0) ∨ (¬ px0 < 0 ∧ ¬ 11 < px0 ∧ px1 < 0) ∨ (¬ px0 < 0 ∧ ¬ 11 < px0 ∧ ¬ px1 < 0 ∧ 1 < px1))) ∨ (r = 1 ∧ (¬ px0 < 0 ∧ ¬ 11 < px0 ∧ ¬ px1 < 0 ∧ ¬ 1 < px1)))
def vkX12_isTime_46 (K : Nat → ClassId) (px0 : Int32) (px1 : Int32) : (Unit) → va_W := (fun (u : Unit) => [])
set_option maxHeartbeats 4000000 in
set_option maxRecDepth 100000 in
theorem kX12_isTime_46 (l : Launch) (D : va_G) (K : Nat → ClassId) (sz : Nat) (px0 : Int32) (px1 : Int32) : uMi l yX12_isTime cX12_isTime 2 (some .boolean) { frames := 0, cells := 0, slots := 0, locals := 0 } [.int px0, .int px1] D K [] sz (qkX12_isTime_46 px0 px1) (vkX12_isTime_46 K px0 px1) := by
  refine uMet (Qc := uQi D (qkX12_isTime_46 px0 px1) (vkX12_isTime_46 K px0 px1)) (ret := (some .boolean)) (by decide) (Nat.le_of_ble_eq_true rfl) ?_
  intro p e s m below meth c A ls hAe hsz B hP hD hS hl
  have hx := B.1
  have hb := B.2.1
  have hl : lv_has ls 2 [(0, .int px0), (1, .int px1)] := hl
  refine lv_iload_n hx hb dX12_isTime_0 rfl (lv_at hl 0 rfl) ?_
  refine lv_if_lt (tgt := 23) hx hb dX12_isTime_1 (by decide) (fun c1 => ?_) (fun c1 => ?_)
  · refine lv_iconst (v := 0) hx hb dX12_isTime_23 (by decide) ?_
    exact uRz () B rfl (Or.inl ⟨rfl, Or.inl c1⟩) (uSub hP [] rfl) (hD.sub [] rfl rfl) hS dX12_isTime_24
  refine lv_iload_n hx hb dX12_isTime_4 rfl (lv_at hl 0 rfl) ?_
  refine lv_bipush (v := 11) hx hb dX12_isTime_5 (by decide) ?_
  refine lv_icmp_gt (tgt := 23) hx hb dX12_isTime_7 (by decide) (fun c2 => ?_) (fun c2 => ?_)
  · refine lv_pc (q := 23) rfl ?_
    refine lv_iconst (v := 0) hx hb dX12_isTime_23 (by decide) ?_
    exact uRz () B rfl (Or.inl ⟨rfl, Or.inr (Or.inl ⟨c1, c2⟩)⟩) (uSub hP [] rfl) (hD.sub [] rfl rfl) hS dX12_isTime_24
  refine lv_pc (q := 10) rfl ?_
  refine lv_iload_n hx hb dX12_isTime_10 rfl (lv_at hl 1 rfl) ?_
  refine lv_if_lt (tgt := 23) hx hb dX12_isTime_11 (by decide) (fun c3 => ?_) (fun c3 => ?_)
  · refine lv_iconst (v := 0) hx hb dX12_isTime_23 (by decide) ?_
    exact uRz () B rfl (Or.inl ⟨rfl, Or.inr (Or.inr (Or.inl ⟨c1, c2, c3⟩))⟩) (uSub hP [] rfl) (hD.sub [] rfl rfl) hS dX12_isTime_24
  refine lv_iload_n hx hb dX12_isTime_14 rfl (lv_at hl 1 rfl) ?_
  refine lv_iconst (v := 1) hx hb dX12_isTime_15 (by decide) ?_
  refine lv_icmp_gt (tgt := 23) hx hb dX12_isTime_16 (by decide) (fun c4 => ?_) (fun c4 => ?_)
  · refine lv_iconst (v := 0) hx hb dX12_isTime_23 (by decide) ?_
    refine lv_pc (q := 24) rfl ?_
    exact uRz () B rfl (Or.inl ⟨rfl, Or.inr (Or.inr (Or.inr ⟨c1, c2, c3, c4⟩))⟩) (uSub hP [] rfl) (hD.sub [] rfl rfl) hS dX12_isTime_24
  refine lv_iconst (v := 1) hx hb dX12_isTime_19 (by decide) ?_
  refine lv_pc (q := 20) rfl ?_
  refine lv_goto (tgt := 24) hx hb dX12_isTime_20 (by decide) ?_
  exact uRz () B rfl (Or.inr ⟨rfl, ⟨c1, c2, c3, c4⟩⟩) (uSub hP [] rfl) (hD.sub [] rfl rfl) hS dX12_isTime_24
def qkX12_haze_47 (ph0 : Nat) (ph1 : Nat) (ph2 : Nat) (pg3 : Nat) (pg4 : Nat) (pg5 : Nat) (pg6 : Nat) (pg7 : Nat) (pg8 : Nat) (pg9 : Nat) (pg10 : Nat) (pg11 : Nat) (pg12 : Nat) (pg13 : Nat) (pg14 : Nat) (pg15 : Nat) (pg16 : Nat) (pg17 : Nat) (pg18 : Nat) (pg19 : Nat) (pg20 : Nat) (pg21 : Nat) (pg22 : Nat) (pg23 : Nat) (pg24 : Nat) (pg25 : Nat) (pg26 : Nat) (pg27 : Nat) (pg28 : Nat) (pg29 : Nat) (pg30 : Nat) (pg31 : Nat) (pg32 : Nat) (pg33 : Nat) (pg34 : Nat) (pg35 : Nat) (pg36 : Nat) (pg37 : Nat) (pg38 : Nat) (pg39 : Nat) (pg40 : Nat) (pg41 : Nat) (pg42 : Nat) (pg43 : Nat) (pg44 : Nat) (pg45 : Nat) (pg46 : Nat) (pg47 : Nat) (pg48 : Nat) (pg49 : Nat) (pg50 : Nat) (pg51 : Nat) (pg52 : Nat) (pg53 : Nat) (pg54 : Nat) (pg55 : Nat) (pg56 : Nat) (pg57 : Nat) (pg58 : Nat) (pg59 : Nat) (pg60 : Nat) (pg61 : Nat) (pg62 : Nat) (pg63 : Nat) (pg64 : Nat) (pg65 : Nat) (pg66 : Nat) (pf67 : Nat → Int32) (pf68 : Nat → Int32) (px69 : Int32) (px70 : Int32) (px71 : Int32) (px72 : Int32) : Int32 → (Unit) → Prop := (fun (r : Int32) (u : Unit) => (r = 0 ∧ ((((px69 < 0) ∨ (¬ px69 < 0 ∧ 11 < px69) ∨ (¬ px69 < 0 ∧ ¬ 11 < px69 ∧ px70 < 0) ∨ (¬ px69 < 0 ∧ ¬ 11 < px69 ∧ ¬ px70 < 0 ∧ 1 < px70))) ∨ (¬ px69 < 0 ∧ ¬ 11 < px69 ∧ ¬ px70 < 0 ∧ ¬ 1 < px70 ∧ px71 < 0) ∨ (¬ px69 < 0 ∧ ¬ 11 < px69 ∧ ¬ px70 < 0 ∧ ¬ 1 < px70 ∧ ¬ px71 < 0 ∧ px72 < px71) ∨ (¬ px69 < 0 ∧ ¬ 11 < px69 ∧ ¬ px70 < 0 ∧ ¬ 1 < px70 ∧ ¬ px71 < 0 ∧ ¬ px72 < px71 ∧ ¬ px72 ≤ 30))) ∨ (r = 1 ∧ (¬ px69 < 0 ∧ ¬ 11 < px69 ∧ ¬ px70 < 0 ∧ ¬ 1 < px70 ∧ ¬ px71 < 0 ∧ ¬ px72 < px71 ∧ px72 ≤ 30)))
def vkX12_haze_47 (K : Nat → ClassId) (ph0 : Nat) (ph1 : Nat) (ph2 : Nat) (pg3 : Nat) (pg4 : Nat) (pg5 : Nat) (pg6 : Nat) (pg7 : Nat) (pg8 : Nat) (pg9 : Nat) (pg10 : Nat) (pg11 : Nat) (pg12 : Nat) (pg13 : Nat) (pg14 : Nat) (pg15 : Nat) (pg16 : Nat) (pg17 : Nat) (pg18 : Nat) (pg19 : Nat) (pg20 : Nat) (pg21 : Nat) (pg22 : Nat) (pg23 : Nat) (pg24 : Nat) (pg25 : Nat) (pg26 : Nat) (pg27 : Nat) (pg28 : Nat) (pg29 : Nat) (pg30 : Nat) (pg31 : Nat) (pg32 : Nat) (pg33 : Nat) (pg34 : Nat) (pg35 : Nat) (pg36 : Nat) (pg37 : Nat) (pg38 : Nat) (pg39 : Nat) (pg40 : Nat) (pg41 : Nat) (pg42 : Nat) (pg43 : Nat) (pg44 : Nat) (pg45 : Nat) (pg46 : Nat) (pg47 : Nat) (pg48 : Nat) (pg49 : Nat) (pg50 : Nat) (pg51 : Nat) (pg52 : Nat) (pg53 : Nat) (pg54 : Nat) (pg55 : Nat) (pg56 : Nat) (pg57 : Nat) (pg58 : Nat) (pg59 : Nat) (pg60 : Nat) (pg61 : Nat) (pg62 : Nat) (pg63 : Nat) (pg64 : Nat) (pg65 : Nat) (pg66 : Nat) (pf67 : Nat → Int32) (pf68 : Nat → Int32) (px69 : Int32) (px70 : Int32) (px71 : Int32) (px72 : Int32) : (Unit) → va_W := (fun (u : Unit) => [])
set_option maxHeartbeats 4000000 in
set_option maxRecDepth 100000 in
theorem kX12_haze_47 (l : Launch) (D : va_G) (K : Nat → ClassId) (sz : Nat) (ph0 : Nat) (ph1 : Nat) (ph2 : Nat) (pg3 : Nat) (pg4 : Nat) (pg5 : Nat) (pg6 : Nat) (pg7 : Nat) (pg8 : Nat) (pg9 : Nat) (pg10 : Nat) (pg11 : Nat) (pg12 : Nat) (pg13 : Nat) (pg14 : Nat) (pg15 : Nat) (pg16 : Nat) (pg17 : Nat) (pg18 : Nat) (pg19 : Nat) (pg20 : Nat) (pg21 : Nat) (pg22 : Nat) (pg23 : Nat) (pg24 : Nat) (pg25 : Nat) (pg26 : Nat) (pg27 : Nat) (pg28 : Nat) (pg29 : Nat) (pg30 : Nat) (pg31 : Nat) (pg32 : Nat) (pg33 : Nat) (pg34 : Nat) (pg35 : Nat) (pg36 : Nat) (pg37 : Nat) (pg38 : Nat) (pg39 : Nat) (pg40 : Nat) (pg41 : Nat) (pg42 : Nat) (pg43 : Nat) (pg44 : Nat) (pg45 : Nat) (pg46 : Nat) (pg47 : Nat) (pg48 : Nat) (pg49 : Nat) (pg50 : Nat) (pg51 : Nat) (pg52 : Nat) (pg53 : Nat) (pg54 : Nat) (pg55 : Nat) (pg56 : Nat) (pg57 : Nat) (pg58 : Nat) (pg59 : Nat) (pg60 : Nat) (pg61 : Nat) (pg62 : Nat) (pg63 : Nat) (pg64 : Nat) (pg65 : Nat) (pg66 : Nat) (pf67 : Nat → Int32) (pf68 : Nat → Int32) (px69 : Int32) (px70 : Int32) (px71 : Int32) (px72 : Int32) : uMi l yX12_haze cX12_haze 5 (some .boolean) { frames := 1, cells := 0, slots := 0, locals := 21 } [.ref ph0, .int px69, .int px70, .int px71, .int px72] D K [(ph0, .inr (12, [.int 0, .int 4, .int 4, .ref pg3, .ref pg4, .ref pg5, .ref pg6, .int 0, .ref ph1, .ref ph2, .int 0, .ref pg7, .ref pg8, .ref pg9, .ref pg10, .ref pg11, .ref pg12, .ref pg13, .int 0, .ref pg14, .ref pg15, .ref pg16, .ref pg17, .ref pg18, .ref pg19, .int 0, .ref pg20, .int 0, .int 0, .int 0, .ref pg21, .int 0, .int 0, .ref pg22, .int 0, .ref pg23, .ref pg24, .ref pg25, .ref pg26, .ref pg27, .ref pg28, .ref pg29, .ref pg30, .ref pg31, .ref pg32, .ref pg33, .ref pg34, .ref pg35, .ref pg36, .ref pg37, .ref pg38, .ref pg39, .ref pg40, .ref pg41, .ref pg42, .ref pg43, .ref pg44, .ref pg45, .int 0, .int 0, .int 0, .int 0, .int 0, .long 0, .int 0, .int 0, .int 0, .int 0, .int 0, .int (-1), .int 0, .ref pg46, .ref pg47, .ref pg48, .ref pg49, .ref pg50, .int 0, .int 0, .ref pg51, .ref pg52, .ref pg53, .ref pg54, .ref pg55, .ref pg56, .ref pg57, .ref pg58, .int 0, .int 0, .int 0, .int 0, .ref pg59, .ref pg60, .int 0, .ref pg61, .ref pg62, .ref pg63, .ref pg64, .ref pg65, .ref pg66])), (ph1, .inl (K 0, 24, .inl pf67)), (ph2, .inl (K 0, 24, .inl pf68))] sz (qkX12_haze_47 ph0 ph1 ph2 pg3 pg4 pg5 pg6 pg7 pg8 pg9 pg10 pg11 pg12 pg13 pg14 pg15 pg16 pg17 pg18 pg19 pg20 pg21 pg22 pg23 pg24 pg25 pg26 pg27 pg28 pg29 pg30 pg31 pg32 pg33 pg34 pg35 pg36 pg37 pg38 pg39 pg40 pg41 pg42 pg43 pg44 pg45 pg46 pg47 pg48 pg49 pg50 pg51 pg52 pg53 pg54 pg55 pg56 pg57 pg58 pg59 pg60 pg61 pg62 pg63 pg64 pg65 pg66 pf67 pf68 px69 px70 px71 px72) (vkX12_haze_47 K ph0 ph1 ph2 pg3 pg4 pg5 pg6 pg7 pg8 pg9 pg10 pg11 pg12 pg13 pg14 pg15 pg16 pg17 pg18 pg19 pg20 pg21 pg22 pg23 pg24 pg25 pg26 pg27 pg28 pg29 pg30 pg31 pg32 pg33 pg34 pg35 pg36 pg37 pg38 pg39 pg40 pg41 pg42 pg43 pg44 pg45 pg46 pg47 pg48 pg49 pg50 pg51 pg52 pg53 pg54 pg55 pg56 pg57 pg58 pg59 pg60 pg61 pg62 pg63 pg64 pg65 pg66 pf67 pf68 px69 px70 px71 px72) := by
  refine uMet (Qc := uQi D (qkX12_haze_47 ph0 ph1 ph2 pg3 pg4 pg5 pg6 pg7 pg8 pg9 pg10 pg11 pg12 pg13 pg14 pg15 pg16 pg17 pg18 pg19 pg20 pg21 pg22 pg23 pg24 pg25 pg26 pg27 pg28 pg29 pg30 pg31 pg32 pg33 pg34 pg35 pg36 pg37 pg38 pg39 pg40 pg41 pg42 pg43 pg44 pg45 pg46 pg47 pg48 pg49 pg50 pg51 pg52 pg53 pg54 pg55 pg56 pg57 pg58 pg59 pg60 pg61 pg62 pg63 pg64 pg65 pg66 pf67 pf68 px69 px70 px71 px72) (vkX12_haze_47 K ph0 ph1 ph2 pg3 pg4 pg5 pg6 pg7 pg8 pg9 pg10 pg11 pg12 pg13 pg14 pg15 pg16 pg17 pg18 pg19 pg20 pg21 pg22 pg23 pg24 pg25 pg26 pg27 pg28 pg29 pg30 pg31 pg32 pg33 pg34 pg35 pg36 pg37 pg38 pg39 pg40 pg41 pg42 pg43 pg44 pg45 pg46 pg47 pg48 pg49 pg50 pg51 pg52 pg53 pg54 pg55 pg56 pg57 pg58 pg59 pg60 pg61 pg62 pg63 pg64 pg65 pg66 pf67 pf68 px69 px70 px71 px72)) (ret := (some .boolean)) (by decide) (Nat.le_of_ble_eq_true rfl) ?_
  intro p e s m below meth c A ls hAe hsz B hP hD hS hl
  have hx := B.1
  have hb := B.2.1
  have hl : lv_has ls 5 [(0, .ref ph0), (1, .int px69), (2, .int px70), (3, .int px71), (4, .int px72)] := hl
  refine lv_aload_n hx hb dX12_haze_0 rfl (lv_at hl 0 rfl) ?_
  refine lv_iconst (v := 0) hx hb dX12_haze_1 (by decide) ?_
  refine uPut (ci := 12) (C := RX12) (T := TX12) (N := 99) (ws' := [(ph0, .inr (12, [.int 0, .int 4, .int 4, .ref pg3, .ref pg4, .ref pg5, .ref pg6, .int 0, .ref ph1, .ref ph2, .int 0, .ref pg7, .ref pg8, .ref pg9, .ref pg10, .ref pg11, .ref pg12, .ref pg13, .int 0, .ref pg14, .ref pg15, .ref pg16, .ref pg17, .ref pg18, .ref pg19, .int 0, .ref pg20, .int 0, .int 0, .int 0, .ref pg21, .int 0, .int 0, .ref pg22, .int 0, .ref pg23, .ref pg24, .ref pg25, .ref pg26, .ref pg27, .ref pg28, .ref pg29, .ref pg30, .ref pg31, .ref pg32, .ref pg33, .ref pg34, .ref pg35, .ref pg36, .ref pg37, .ref pg38, .ref pg39, .ref pg40, .ref pg41, .ref pg42, .ref pg43, .ref pg44, .ref pg45, .int 0, .int 0, .int 0, .int 0, .int 0, .long 0, .int 0, .int 0, .int 0, .int 0, .int 0, .int (-1), .int 0, .ref pg46, .ref pg47, .ref pg48, .ref pg49, .ref pg50, .int 0, .int 0, .ref pg51, .ref pg52, .ref pg53, .ref pg54, .ref pg55, .ref pg56, .ref pg57, .ref pg58, .int 0, .int 0, .int 0, .int 0, .ref pg59, .ref pg60, .int 0, .ref pg61, .ref pg62, .ref pg63, .ref pg64, .ref pg65, .ref pg66])), (ph1, .inl (K 0, 24, .inl pf67)), (ph2, .inl (K 0, 24, .inl pf68))]) B inlX12 tyX12_ok nmX12 hP hD hS 0 rfl rfl 0 rfl mfl_X12_224 rfl rfl rfl rfl rfl rfl dX12_haze_2 (fun H locs hP hD hS => ?_)
  refine lv_iload_n hx hb dX12_haze_5 rfl (lv_at hl 1 rfl) ?_
  refine lv_iload_n hx hb dX12_haze_6 rfl (lv_at hl 2 rfl) ?_
  refine lv_pc (q := 7) rfl ?_
  refine uSi (As := [.int px69, .int px70]) (rest := []) (wr := [(ph0, .inr (12, [.int 0, .int 4, .int 4, .ref pg3, .ref pg4, .ref pg5, .ref pg6, .int 0, .ref ph1, .ref ph2, .int 0, .ref pg7, .ref pg8, .ref pg9, .ref pg10, .ref pg11, .ref pg12, .ref pg13, .int 0, .ref pg14, .ref pg15, .ref pg16, .ref pg17, .ref pg18, .ref pg19, .int 0, .ref pg20, .int 0, .int 0, .int 0, .ref pg21, .int 0, .int 0, .ref pg22, .int 0, .ref pg23, .ref pg24, .ref pg25, .ref pg26, .ref pg27, .ref pg28, .ref pg29, .ref pg30, .ref pg31, .ref pg32, .ref pg33, .ref pg34, .ref pg35, .ref pg36, .ref pg37, .ref pg38, .ref pg39, .ref pg40, .ref pg41, .ref pg42, .ref pg43, .ref pg44, .ref pg45, .int 0, .int 0, .int 0, .int 0, .int 0, .long 0, .int 0, .int 0, .int 0, .int 0, .int 0, .int (-1), .int 0, .ref pg46, .ref pg47, .ref pg48, .ref pg49, .ref pg50, .int 0, .int 0, .ref pg51, .ref pg52, .ref pg53, .ref pg54, .ref pg55, .ref pg56, .ref pg57, .ref pg58, .int 0, .int 0, .int 0, .int 0, .ref pg59, .ref pg60, .int 0, .ref pg61, .ref pg62, .ref pg63, .ref pg64, .ref pg65, .ref pg66])), (ph1, .inl (K 0, 24, .inl pf67)), (ph2, .inl (K 0, 24, .inl pf68))]) [] B hl.1 hP hD hS [] [0, 1, 2] rfl rfl rfl (kX12_isTime_46 l D K _ px69 px70) wd_X12_isTime mml_X12_246 rfl rfl ⟨Nat.le_of_ble_eq_true rfl, Nat.le_of_ble_eq_true rfl⟩ (Nat.le_of_ble_eq_true rfl) ⟨Nat.le_of_ble_eq_true rfl, Nat.le_of_ble_eq_true rfl⟩ dX12_haze_7 (fun r1 u H locs hw hP hD hS => ?_)
  try dsimp only at hw
  rcases hw with ⟨rfl, w2⟩ | ⟨rfl, ⟨w3, w4, w5, w6⟩⟩
  · have hP : va_P D vwCl [(ph0, .inr (12, [.int 0, .int 4, .int 4, .ref pg3, .ref pg4, .ref pg5, .ref pg6, .int 0, .ref ph1, .ref ph2, .int 0, .ref pg7, .ref pg8, .ref pg9, .ref pg10, .ref pg11, .ref pg12, .ref pg13, .int 0, .ref pg14, .ref pg15, .ref pg16, .ref pg17, .ref pg18, .ref pg19, .int 0, .ref pg20, .int 0, .int 0, .int 0, .ref pg21, .int 0, .int 0, .ref pg22, .int 0, .ref pg23, .ref pg24, .ref pg25, .ref pg26, .ref pg27, .ref pg28, .ref pg29, .ref pg30, .ref pg31, .ref pg32, .ref pg33, .ref pg34, .ref pg35, .ref pg36, .ref pg37, .ref pg38, .ref pg39, .ref pg40, .ref pg41, .ref pg42, .ref pg43, .ref pg44, .ref pg45, .int 0, .int 0, .int 0, .int 0, .int 0, .long 0, .int 0, .int 0, .int 0, .int 0, .int 0, .int (-1), .int 0, .ref pg46, .ref pg47, .ref pg48, .ref pg49, .ref pg50, .int 0, .int 0, .ref pg51, .ref pg52, .ref pg53, .ref pg54, .ref pg55, .ref pg56, .ref pg57, .ref pg58, .int 0, .int 0, .int 0, .int 0, .ref pg59, .ref pg60, .int 0, .ref pg61, .ref pg62, .ref pg63, .ref pg64, .ref pg65, .ref pg66])), (ph1, .inl (K 0, 24, .inl pf67)), (ph2, .inl (K 0, 24, .inl pf68))] H := hP
    have hD : va_D A [(ph0, .inr (12, [.int 0, .int 4, .int 4, .ref pg3, .ref pg4, .ref pg5, .ref pg6, .int 0, .ref ph1, .ref ph2, .int 0, .ref pg7, .ref pg8, .ref pg9, .ref pg10, .ref pg11, .ref pg12, .ref pg13, .int 0, .ref pg14, .ref pg15, .ref pg16, .ref pg17, .ref pg18, .ref pg19, .int 0, .ref pg20, .int 0, .int 0, .int 0, .ref pg21, .int 0, .int 0, .ref pg22, .int 0, .ref pg23, .ref pg24, .ref pg25, .ref pg26, .ref pg27, .ref pg28, .ref pg29, .ref pg30, .ref pg31, .ref pg32, .ref pg33, .ref pg34, .ref pg35, .ref pg36, .ref pg37, .ref pg38, .ref pg39, .ref pg40, .ref pg41, .ref pg42, .ref pg43, .ref pg44, .ref pg45, .int 0, .int 0, .int 0, .int 0, .int 0, .long 0, .int 0, .int 0, .int 0, .int 0, .int 0, .int (-1), .int 0, .ref pg46, .ref pg47, .ref pg48, .ref pg49, .ref pg50, .int 0, .int 0, .ref pg51, .ref pg52, .ref pg53, .ref pg54, .ref pg55, .ref pg56, .ref pg57, .ref pg58, .int 0, .int 0, .int 0, .int 0, .ref pg59, .ref pg60, .int 0, .ref pg61, .ref pg62, .ref pg63, .ref pg64, .ref pg65, .ref pg66])), (ph1, .inl (K 0, 24, .inl pf67)), (ph2, .inl (K 0, 24, .inl pf68))] := hD
    refine lv_if_eq (tgt := 30) hx hb dX12_haze_10 (by decide) (fun _ => ?_) (fun h9 => absurd (by decide) h9)
    refine lv_iconst (v := 0) hx hb dX12_haze_30 (by decide) ?_
    exact uRz () B rfl (Or.inl ⟨rfl, Or.inl w2⟩) (uSub hP [] rfl) (hD.sub [] rfl rfl) hS dX12_haze_31
  have hP : va_P D vwCl [(ph0, .inr (12, [.int 0, .int 4, .int 4, .ref pg3, .ref pg4, .ref pg5, .ref pg6, .int 0, .ref ph1, .ref ph2, .int 0, .ref pg7, .ref pg8, .ref pg9, .ref pg10, .ref pg11, .ref pg12, .ref pg13, .int 0, .ref pg14, .ref pg15, .ref pg16, .ref pg17, .ref pg18, .ref pg19, .int 0, .ref pg20, .int 0, .int 0, .int 0, .ref pg21, .int 0, .int 0, .ref pg22, .int 0, .ref pg23, .ref pg24, .ref pg25, .ref pg26, .ref pg27, .ref pg28, .ref pg29, .ref pg30, .ref pg31, .ref pg32, .ref pg33, .ref pg34, .ref pg35, .ref pg36, .ref pg37, .ref pg38, .ref pg39, .ref pg40, .ref pg41, .ref pg42, .ref pg43, .ref pg44, .ref pg45, .int 0, .int 0, .int 0, .int 0, .int 0, .long 0, .int 0, .int 0, .int 0, .int 0, .int 0, .int (-1), .int 0, .ref pg46, .ref pg47, .ref pg48, .ref pg49, .ref pg50, .int 0, .int 0, .ref pg51, .ref pg52, .ref pg53, .ref pg54, .ref pg55, .ref pg56, .ref pg57, .ref pg58, .int 0, .int 0, .int 0, .int 0, .ref pg59, .ref pg60, .int 0, .ref pg61, .ref pg62, .ref pg63, .ref pg64, .ref pg65, .ref pg66])), (ph1, .inl (K 0, 24, .inl pf67)), (ph2, .inl (K 0, 24, .inl pf68))] H := hP
  have hD : va_D A [(ph0, .inr (12, [.int 0, .int 4, .int 4, .ref pg3, .ref pg4, .ref pg5, .ref pg6, .int 0, .ref ph1, .ref ph2, .int 0, .ref pg7, .ref pg8, .ref pg9, .ref pg10, .ref pg11, .ref pg12, .ref pg13, .int 0, .ref pg14, .ref pg15, .ref pg16, .ref pg17, .ref pg18, .ref pg19, .int 0, .ref pg20, .int 0, .int 0, .int 0, .ref pg21, .int 0, .int 0, .ref pg22, .int 0, .ref pg23, .ref pg24, .ref pg25, .ref pg26, .ref pg27, .ref pg28, .ref pg29, .ref pg30, .ref pg31, .ref pg32, .ref pg33, .ref pg34, .ref pg35, .ref pg36, .ref pg37, .ref pg38, .ref pg39, .ref pg40, .ref pg41, .ref pg42, .ref pg43, .ref pg44, .ref pg45, .int 0, .int 0, .int 0, .int 0, .int 0, .long 0, .int 0, .int 0, .int 0, .int 0, .int 0, .int (-1), .int 0, .ref pg46, .ref pg47, .ref pg48, .ref pg49, .ref pg50, .int 0, .int 0, .ref pg51, .ref pg52, .ref pg53, .ref pg54, .ref pg55, .ref pg56, .ref pg57, .ref pg58, .int 0, .int 0, .int 0, .int 0, .ref pg59, .ref pg60, .int 0, .ref pg61, .ref pg62, .ref pg63, .ref pg64, .ref pg65, .ref pg66])), (ph1, .inl (K 0, 24, .inl pf67)), (ph2, .inl (K 0, 24, .inl pf68))] := hD
  refine lv_if_eq (tgt := 30) hx hb dX12_haze_10 (by decide) (fun h9 => absurd h9 (by decide)) (fun _ => ?_)
  refine lv_iload_n hx hb dX12_haze_13 rfl (lv_at hl 3 rfl) ?_
  refine lv_if_lt (tgt := 30) hx hb dX12_haze_14 (by decide) (fun c7 => ?_) (fun c7 => ?_)
  · refine lv_iconst (v := 0) hx hb dX12_haze_30 (by decide) ?_
    exact uRz () B rfl (Or.inl ⟨rfl, Or.inr (Or.inl ⟨w3, w4, w5, w6, c7⟩)⟩) (uSub hP [] rfl) (hD.sub [] rfl rfl) hS dX12_haze_31
  refine lv_iload_n hx hb dX12_haze_17 rfl (lv_at hl 3 rfl) ?_
  refine lv_iload hx hb dX12_haze_18 (lv_at hl 4 rfl) ?_
  refine lv_pc (q := 20) rfl ?_
  refine lv_icmp_gt (tgt := 30) hx hb dX12_haze_20 (by decide) (fun c8 => ?_) (fun c8 => ?_)
  · refine lv_iconst (v := 0) hx hb dX12_haze_30 (by decide) ?_
    exact uRz () B rfl (Or.inl ⟨rfl, Or.inr (Or.inr (Or.inl ⟨w3, w4, w5, w6, c7, c8⟩))⟩) (uSub hP [] rfl) (hD.sub [] rfl rfl) hS dX12_haze_31
  refine lv_iload hx hb dX12_haze_23 (lv_at hl 4 rfl) ?_
  refine lv_bipush (v := 30) hx hb dX12_haze_25 (by decide) ?_
  refine lv_icmp_le (tgt := 32) hx hb dX12_haze_27 (by decide) (fun c9 => ?_) (fun c9 => ?_)
  · obtain ⟨a10, ha10, ea10⟩ : ∃ a : Nat, a < 12 ∧ px69 = nI a := uNat (by simp only [fa_lt, fa_le, fa_eq, Int32.reduceToInt] at w3 w4; omega) (by simp only [fa_lt, fa_le, fa_eq, Int32.reduceToInt] at w3 w4; omega) (by decide)
    obtain ⟨a11, ha11, ea11⟩ : ∃ a : Nat, a < 2 ∧ px70 = nI a := uNat (by simp only [fa_lt, fa_le, fa_eq, Int32.reduceToInt] at w5 w6; omega) (by simp only [fa_lt, fa_le, fa_eq, Int32.reduceToInt] at w5 w6; omega) (by decide)
    refine lv_aload_n hx hb dX12_haze_32 rfl (lv_at hl 0 rfl) ?_
    refine uGet (ci := 12) (C := RX12) (T := TX12) (N := 99) (v := .ref ph1) B inlX12 hP 0 rfl rfl 8 rfl mfl_X12_29 rfl rfl dX12_haze_33 ?_
    refine lv_pc (q := 36) rfl ?_
    refine lv_iconst (v := 2) hx hb dX12_haze_36 (by decide) ?_
    refine lv_iload_n hx hb dX12_haze_37 rfl (lv_at hl 1 rfl) ?_
    refine lv_fixi (y := (nI a10)) ea10 ?_
    refine lv_imul hx hb dX12_haze_38 ?_
    refine lv_fixi (y := (nI (2 * a10))) (by rw [show (2 : Int32) = nI 2 from rfl, pk_mul]) ?_
    refine lv_iload_n hx hb dX12_haze_39 rfl (lv_at hl 2 rfl) ?_
    refine lv_fixi (y := (nI a11)) ea11 ?_
    refine lv_iadd hx hb dX12_haze_40 ?_
    refine lv_fixi (y := (nI ((2 * a10) + a11))) (by rw [nI_add]) ?_
    refine lv_iload_n hx hb dX12_haze_41 rfl (lv_at hl 3 rfl) ?_
    refine lv_pc (q := 42) rfl ?_
    refine uIast (i := (nI ((2 * a10) + a11))) (j := (2 * a10) + a11) (ws' := [(ph0, .inr (12, [.int 0, .int 4, .int 4, .ref pg3, .ref pg4, .ref pg5, .ref pg6, .int 0, .ref ph1, .ref ph2, .int 0, .ref pg7, .ref pg8, .ref pg9, .ref pg10, .ref pg11, .ref pg12, .ref pg13, .int 0, .ref pg14, .ref pg15, .ref pg16, .ref pg17, .ref pg18, .ref pg19, .int 0, .ref pg20, .int 0, .int 0, .int 0, .ref pg21, .int 0, .int 0, .ref pg22, .int 0, .ref pg23, .ref pg24, .ref pg25, .ref pg26, .ref pg27, .ref pg28, .ref pg29, .ref pg30, .ref pg31, .ref pg32, .ref pg33, .ref pg34, .ref pg35, .ref pg36, .ref pg37, .ref pg38, .ref pg39, .ref pg40, .ref pg41, .ref pg42, .ref pg43, .ref pg44, .ref pg45, .int 0, .int 0, .int 0, .int 0, .int 0, .long 0, .int 0, .int 0, .int 0, .int 0, .int 0, .int (-1), .int 0, .ref pg46, .ref pg47, .ref pg48, .ref pg49, .ref pg50, .int 0, .int 0, .ref pg51, .ref pg52, .ref pg53, .ref pg54, .ref pg55, .ref pg56, .ref pg57, .ref pg58, .int 0, .int 0, .int 0, .int 0, .ref pg59, .ref pg60, .int 0, .ref pg61, .ref pg62, .ref pg63, .ref pg64, .ref pg65, .ref pg66])), (ph1, .inl (K 0, 24, .inl (upd pf67 ((2 * a10) + a11) px71))), (ph2, .inl (K 0, 24, .inl pf68))]) B hP hD hS 1 rfl (nI_in (by omega) (by omega)) (nI_clamp (by omega)) rfl dX12_haze_42 (fun H locs hP hD hS => ?_)
    refine lv_aload_n hx hb dX12_haze_43 rfl (lv_at hl 0 rfl) ?_
    refine uGet (ci := 12) (C := RX12) (T := TX12) (N := 99) (v := .ref ph2) B inlX12 hP 0 rfl rfl 9 rfl mfl_X12_32 rfl rfl dX12_haze_44 ?_
    refine lv_iconst (v := 2) hx hb dX12_haze_47 (by decide) ?_
    refine lv_iload_n hx hb dX12_haze_48 rfl (lv_at hl 1 rfl) ?_
    refine lv_fixi (y := (nI a10)) ea10 ?_
    refine lv_imul hx hb dX12_haze_49 ?_
    refine lv_fixi (y := (nI (2 * a10))) (by rw [show (2 : Int32) = nI 2 from rfl, pk_mul]) ?_
    refine lv_pc (q := 50) rfl ?_
    refine lv_iload_n hx hb dX12_haze_50 rfl (lv_at hl 2 rfl) ?_
    refine lv_fixi (y := (nI a11)) ea11 ?_
    refine lv_iadd hx hb dX12_haze_51 ?_
    refine lv_fixi (y := (nI ((2 * a10) + a11))) (by rw [nI_add]) ?_
    refine lv_iload hx hb dX12_haze_52 (lv_at hl 4 rfl) ?_
    refine uIast (i := (nI ((2 * a10) + a11))) (j := (2 * a10) + a11) (ws' := [(ph0, .inr (12, [.int 0, .int 4, .int 4, .ref pg3, .ref pg4, .ref pg5, .ref pg6, .int 0, .ref ph1, .ref ph2, .int 0, .ref pg7, .ref pg8, .ref pg9, .ref pg10, .ref pg11, .ref pg12, .ref pg13, .int 0, .ref pg14, .ref pg15, .ref pg16, .ref pg17, .ref pg18, .ref pg19, .int 0, .ref pg20, .int 0, .int 0, .int 0, .ref pg21, .int 0, .int 0, .ref pg22, .int 0, .ref pg23, .ref pg24, .ref pg25, .ref pg26, .ref pg27, .ref pg28, .ref pg29, .ref pg30, .ref pg31, .ref pg32, .ref pg33, .ref pg34, .ref pg35, .ref pg36, .ref pg37, .ref pg38, .ref pg39, .ref pg40, .ref pg41, .ref pg42, .ref pg43, .ref pg44, .ref pg45, .int 0, .int 0, .int 0, .int 0, .int 0, .long 0, .int 0, .int 0, .int 0, .int 0, .int 0, .int (-1), .int 0, .ref pg46, .ref pg47, .ref pg48, .ref pg49, .ref pg50, .int 0, .int 0, .ref pg51, .ref pg52, .ref pg53, .ref pg54, .ref pg55, .ref pg56, .ref pg57, .ref pg58, .int 0, .int 0, .int 0, .int 0, .ref pg59, .ref pg60, .int 0, .ref pg61, .ref pg62, .ref pg63, .ref pg64, .ref pg65, .ref pg66])), (ph1, .inl (K 0, 24, .inl (upd pf67 ((2 * a10) + a11) px71))), (ph2, .inl (K 0, 24, .inl (upd pf68 ((2 * a10) + a11) px72)))]) B hP hD hS 2 rfl (nI_in (by omega) (by omega)) (nI_clamp (by omega)) rfl dX12_haze_54 (fun H locs hP hD hS => ?_)
    refine lv_iconst (v := 1) hx hb dX12_haze_55 (by decide) ?_
    exact uRz () B rfl (Or.inr ⟨rfl, ⟨w3, w4, w5, w6, c7, c8, c9⟩⟩) (uSub hP [] rfl) (hD.sub [] rfl rfl) hS dX12_haze_56
  refine lv_iconst (v := 0) hx hb dX12_haze_30 (by decide) ?_
  exact uRz () B rfl (Or.inl ⟨rfl, Or.inr (Or.inr (Or.inr ⟨w3, w4, w5, w6, c7, c8, c9⟩))⟩) (uSub hP [] rfl) (hD.sub [] rfl rfl) hS dX12_haze_31
def qkX4_isTaken_48 (ph0 : Nat) (pg1 : Nat) (pg2 : Nat) (pg3 : Nat) (pg4 : Nat) (pg5 : Nat) (pg6 : Nat) (pg7 : Nat) (pg8 : Nat) (pg9 : Nat) (px10 : Int32) (px11 : Int32) : Int32 → (Unit) → Prop := (fun (r : Int32) (u : Unit) => r = 0)
def vkX4_isTaken_48 (K : Nat → ClassId) (ph0 : Nat) (pg1 : Nat) (pg2 : Nat) (pg3 : Nat) (pg4 : Nat) (pg5 : Nat) (pg6 : Nat) (pg7 : Nat) (pg8 : Nat) (pg9 : Nat) (px10 : Int32) (px11 : Int32) : (Unit) → va_W := (fun (u : Unit) => [(ph0, .inr (4, [.ref pg1, .ref pg2, .ref pg3, .ref pg4, .ref pg5, .ref pg6, .ref pg7, .ref pg8, .ref pg9, .int 0]))])
set_option maxHeartbeats 4000000 in
set_option maxRecDepth 100000 in
theorem kX4_isTaken_48 (l : Launch) (D : va_G) (K : Nat → ClassId) (sz : Nat) (ph0 : Nat) (pg1 : Nat) (pg2 : Nat) (pg3 : Nat) (pg4 : Nat) (pg5 : Nat) (pg6 : Nat) (pg7 : Nat) (pg8 : Nat) (pg9 : Nat) (px10 : Int32) (px11 : Int32) : uMi l yX4_isTaken cX4_isTaken 4 (some .boolean) { frames := 0, cells := 0, slots := 0, locals := 0 } [.ref ph0, .int px10, .int px11] D K [(ph0, .inr (4, [.ref pg1, .ref pg2, .ref pg3, .ref pg4, .ref pg5, .ref pg6, .ref pg7, .ref pg8, .ref pg9, .int 0]))] sz (qkX4_isTaken_48 ph0 pg1 pg2 pg3 pg4 pg5 pg6 pg7 pg8 pg9 px10 px11) (vkX4_isTaken_48 K ph0 pg1 pg2 pg3 pg4 pg5 pg6 pg7 pg8 pg9 px10 px11) := by
  refine uMet (Qc := uQi D (qkX4_isTaken_48 ph0 pg1 pg2 pg3 pg4 pg5 pg6 pg7 pg8 pg9 px10 px11) (vkX4_isTaken_48 K ph0 pg1 pg2 pg3 pg4 pg5 pg6 pg7 pg8 pg9 px10 px11)) (ret := (some .boolean)) (by decide) (Nat.le_of_ble_eq_true rfl) ?_
  intro p e s m below meth c A ls hAe hsz B hP hD hS hl
  have hx := B.1
  have hb := B.2.1
  have hl : lv_has ls 4 [(0, .ref ph0), (1, .int px10), (2, .int px11)] := hl
  refine lv_iconst (v := 0) hx hb dX4_isTaken_0 (by decide) ?_
  refine lv_istore_n (lv' := [(3, .int 0), (0, .ref ph0), (1, .int px10), (2, .int px11)]) hx hb dX4_isTaken_1 rfl hl (by decide) rfl (fun ls hl => ?_)
  refine lv_iload_n hx hb dX4_isTaken_2 rfl (lv_at hl 0 rfl) ?_
  refine lv_aload_n hx hb dX4_isTaken_3 rfl (lv_at hl 1 rfl) ?_
  refine uGet (ci := 4) (C := RX4) (T := TX4) (N := 10) (v := .int 0) B inlX4 hP 0 rfl rfl 9 rfl mfl_X4_36 rfl rfl dX4_isTaken_4 ?_
  refine lv_pc (q := 7) rfl ?_
  refine lv_icmp_ge (tgt := 38) hx hb dX4_isTaken_7 (by decide) (fun _ => ?_) (fun h9 => absurd (by decide) h9)
  refine lv_iconst (v := 0) hx hb dX4_isTaken_38 (by decide) ?_
  exact uRz () B rfl rfl (uSub hP [0] rfl) (hD.sub [0] rfl rfl) hS dX4_isTaken_39
def qkX9_cell_49 (px0 : Int32) (px1 : Int32) : Int32 → (Unit) → Prop := (fun (r : Int32) (u : Unit) => r = (px1 * 16) + px0)
def vkX9_cell_49 (K : Nat → ClassId) (px0 : Int32) (px1 : Int32) : (Unit) → va_W := (fun (u : Unit) => [])
set_option maxHeartbeats 4000000 in
set_option maxRecDepth 100000 in
theorem kX9_cell_49 (l : Launch) (D : va_G) (K : Nat → ClassId) (sz : Nat) (px0 : Int32) (px1 : Int32) : uMi l yX9_cell cX9_cell 2 (some .int) { frames := 0, cells := 0, slots := 0, locals := 0 } [.int px0, .int px1] D K [] sz (qkX9_cell_49 px0 px1) (vkX9_cell_49 K px0 px1) := by
  refine uMet (Qc := uQi D (qkX9_cell_49 px0 px1) (vkX9_cell_49 K px0 px1)) (ret := (some .int)) (by decide) (Nat.le_of_ble_eq_true rfl) ?_
  intro p e s m below meth c A ls hAe hsz B hP hD hS hl
  have hx := B.1
  have hb := B.2.1
  have hl : lv_has ls 2 [(0, .int px0), (1, .int px1)] := hl
  refine lv_iload_n hx hb dX9_cell_0 rfl (lv_at hl 1 rfl) ?_
  refine lv_bipush (v := 16) hx hb dX9_cell_1 (by decide) ?_
  refine lv_imul hx hb dX9_cell_3 ?_
  refine lv_iload_n hx hb dX9_cell_4 rfl (lv_at hl 0 rfl) ?_
  refine lv_iadd hx hb dX9_cell_5 ?_
  refine lv_pc (q := 6) rfl ?_
  exact uRi () B rfl (uSub hP [] rfl) (hD.sub [] rfl rfl) hS dX9_cell_6
def qkX4_add_50 (ph0 : Nat) (ph1 : Nat) (ph2 : Nat) (ph3 : Nat) (ph4 : Nat) (ph5 : Nat) (ph6 : Nat) (ph7 : Nat) (ph8 : Nat) (ph9 : Nat) (pg10 : Nat) (pg11 : Nat) (pg12 : Nat) (pg13 : Nat) (pg14 : Nat) (pg15 : Nat) (pf16 : Nat → Int32) (pf17 : Nat → Int32) (pf18 : Nat → Int32) (pf19 : Nat → Int32) (pf20 : Nat → Int32) (pf21 : Nat → Int32) (pf22 : Nat → Int32) (pf23 : Nat → Int32) (px24 : Int32) (px25 : Int32) (px26 : Int32) (px27 : Int32) (px28 : Int32) : Int32 → (Int32 × (Nat → Int32) × (Nat → Int32) × (Nat → Int32) × (Nat → Int32) × (Nat → Int32) × (Nat → Int32) × (Nat → Int32) × (Nat → Int32)) → Prop := (fun (r : Int32) (u : Int32 × (Nat → Int32) × (Nat → Int32) × (Nat → Int32) × (Nat → Int32) × (Nat → Int32) × (Nat → Int32) × (Nat → Int32) × (Nat → Int32)) => (r = (-1) ∧ u.1 = 0 ∧ ((((px24 < 0) ∨ (¬ px24 < 0 ∧ 4 ≤ px24) ∨ (¬ px24 < 0 ∧ ¬ 4 ≤ px24 ∧ px25 < 0) ∨ (¬ px24 < 0 ∧ ¬ 4 ≤ px24 ∧ ¬ px25 < 0 ∧ 4 ≤ px25))) ∨ (¬ px24 < 0 ∧ ¬ 4 ≤ px24 ∧ ¬ px25 < 0 ∧ ¬ 4 ≤ px25 ∧ px26 < 1) ∨ (¬ px24 < 0 ∧ ¬ 4 ≤ px24 ∧ ¬ px25 < 0 ∧ ¬ 4 ≤ px25 ∧ ¬ px26 < 1 ∧ px27 < px26) ∨ (¬ px24 < 0 ∧ ¬ 4 ≤ px24 ∧ ¬ px25 < 0 ∧ ¬ 4 ≤ px25 ∧ ¬ px26 < 1 ∧ ¬ px27 < px26 ∧ px27 ≤ 40 ∧ px28 < 0) ∨ (¬ px24 < 0 ∧ ¬ 4 ≤ px24 ∧ ¬ px25 < 0 ∧ ¬ 4 ≤ px25 ∧ ¬ px26 < 1 ∧ ¬ px27 < px26 ∧ px27 ≤ 40 ∧ ¬ px28 < 0 ∧ 50 < px28) ∨ (¬ px24 < 0 ∧ ¬ 4 ≤ px24 ∧ ¬ px25 < 0 ∧ ¬ 4 ≤ px25 ∧ ¬ px26 < 1 ∧ ¬ px27 < px26 ∧ ¬ px27 ≤ 40))) ∨ (r = 0 ∧ u.1 = 1 ∧ (¬ px24 < 0 ∧ ¬ 4 ≤ px24 ∧ ¬ px25 < 0 ∧ ¬ 4 ≤ px25 ∧ ¬ px26 < 1 ∧ ¬ px27 < px26 ∧ px27 ≤ 40 ∧ ¬ px28 < 0 ∧ ¬ 50 < px28)))
def vkX4_add_50 (K : Nat → ClassId) (ph0 : Nat) (ph1 : Nat) (ph2 : Nat) (ph3 : Nat) (ph4 : Nat) (ph5 : Nat) (ph6 : Nat) (ph7 : Nat) (ph8 : Nat) (ph9 : Nat) (pg10 : Nat) (pg11 : Nat) (pg12 : Nat) (pg13 : Nat) (pg14 : Nat) (pg15 : Nat) (pf16 : Nat → Int32) (pf17 : Nat → Int32) (pf18 : Nat → Int32) (pf19 : Nat → Int32) (pf20 : Nat → Int32) (pf21 : Nat → Int32) (pf22 : Nat → Int32) (pf23 : Nat → Int32) (px24 : Int32) (px25 : Int32) (px26 : Int32) (px27 : Int32) (px28 : Int32) : (Int32 × (Nat → Int32) × (Nat → Int32) × (Nat → Int32) × (Nat → Int32) × (Nat → Int32) × (Nat → Int32) × (Nat → Int32) × (Nat → Int32)) → va_W := (fun (u : Int32 × (Nat → Int32) × (Nat → Int32) × (Nat → Int32) × (Nat → Int32) × (Nat → Int32) × (Nat → Int32) × (Nat → Int32) × (Nat → Int32)) => [(ph0, .inr (4, [.ref ph1, .ref ph2, .ref ph3, .ref ph4, .ref ph5, .ref ph6, .ref ph7, .ref ph8, .ref ph9, .int u.1])), (ph1, .inr (9, [.ref pg10, .ref pg11, .ref pg12, .ref pg13, .ref pg14, .ref pg15, .int 4, .int 4, .int 0])), (ph2, .inl (K 0, 12, .inl (u.2.1))), (ph3, .inl (K 0, 12, .inl (u.2.2.1))), (ph4, .inl (K 0, 12, .inl (u.2.2.2.1))), (ph5, .inl (K 0, 12, .inl (u.2.2.2.2.1))), (ph6, .inl (K 0, 12, .inl (u.2.2.2.2.2.1))), (ph7, .inl (K 0, 12, .inl (u.2.2.2.2.2.2.1))), (ph8, .inl (K 0, 12, .inl (u.2.2.2.2.2.2.2.1))), (ph9, .inl (K 0, 12, .inl (u.2.2.2.2.2.2.2.2)))])
set_option maxHeartbeats 4000000 in
set_option maxRecDepth 100000 in
theorem kX4_add_50 (l : Launch) (D : va_G) (K : Nat → ClassId) (sz : Nat) (ph0 : Nat) (ph1 : Nat) (ph2 : Nat) (ph3 : Nat) (ph4 : Nat) (ph5 : Nat) (ph6 : Nat) (ph7 : Nat) (ph8 : Nat) (ph9 : Nat) (pg10 : Nat) (pg11 : Nat) (pg12 : Nat) (pg13 : Nat) (pg14 : Nat) (pg15 : Nat) (pf16 : Nat → Int32) (pf17 : Nat → Int32) (pf18 : Nat → Int32) (pf19 : Nat → Int32) (pf20 : Nat → Int32) (pf21 : Nat → Int32) (pf22 : Nat → Int32) (pf23 : Nat → Int32) (px24 : Int32) (px25 : Int32) (px26 : Int32) (px27 : Int32) (px28 : Int32) : uMi l yX4_add cX4_add 7 (some .int) { frames := 1, cells := 0, slots := 0, locals := 23 } [.ref ph0, .int px24, .int px25, .int px26, .int px27, .int 0, .int px28] D K [(ph0, .inr (4, [.ref ph1, .ref ph2, .ref ph3, .ref ph4, .ref ph5, .ref ph6, .ref ph7, .ref ph8, .ref ph9, .int 0])), (ph1, .inr (9, [.ref pg10, .ref pg11, .ref pg12, .ref pg13, .ref pg14, .ref pg15, .int 4, .int 4, .int 0])), (ph2, .inl (K 0, 12, .inl pf16)), (ph3, .inl (K 0, 12, .inl pf17)), (ph4, .inl (K 0, 12, .inl pf18)), (ph5, .inl (K 0, 12, .inl pf19)), (ph6, .inl (K 0, 12, .inl pf20)), (ph7, .inl (K 0, 12, .inl pf21)), (ph8, .inl (K 0, 12, .inl pf22)), (ph9, .inl (K 0, 12, .inl pf23))] sz (qkX4_add_50 ph0 ph1 ph2 ph3 ph4 ph5 ph6 ph7 ph8 ph9 pg10 pg11 pg12 pg13 pg14 pg15 pf16 pf17 pf18 pf19 pf20 pf21 pf22 pf23 px24 px25 px26 px27 px28) (vkX4_add_50 K ph0 ph1 ph2 ph3 ph4 ph5 ph6 ph7 ph8 ph9 pg10 pg11 pg12 pg13 pg14 pg15 pf16 pf17 pf18 pf19 pf20 pf21 pf22 pf23 px24 px25 px26 px27 px28) := by
  refine uMet (Qc := uQi D (qkX4_add_50 ph0 ph1 ph2 ph3 ph4 ph5 ph6 ph7 ph8 ph9 pg10 pg11 pg12 pg13 pg14 pg15 pf16 pf17 pf18 pf19 pf20 pf21 pf22 pf23 px24 px25 px26 px27 px28) (vkX4_add_50 K ph0 ph1 ph2 ph3 ph4 ph5 ph6 ph7 ph8 ph9 pg10 pg11 pg12 pg13 pg14 pg15 pf16 pf17 pf18 pf19 pf20 pf21 pf22 pf23 px24 px25 px26 px27 px28)) (ret := (some .int)) (by decide) (Nat.le_of_ble_eq_true rfl) ?_
  intro p e s m below meth c A ls hAe hsz B hP hD hS hl
  have hx := B.1
  have hb := B.2.1
  have hl : lv_has ls 7 [(0, .ref ph0), (1, .int px24), (2, .int px25), (3, .int px26), (4, .int px27), (5, .int 0), (6, .int px28)] := hl
  refine lv_aload_n hx hb dX4_add_0 rfl (lv_at hl 0 rfl) ?_
  refine uGet (ci := 4) (C := RX4) (T := TX4) (N := 10) (v := .ref ph1) B inlX4 hP 0 rfl rfl 0 rfl mfl_X4_40 rfl rfl dX4_add_1 ?_
  refine lv_iload_n hx hb dX4_add_4 rfl (lv_at hl 1 rfl) ?_
  refine lv_iload_n hx hb dX4_add_5 rfl (lv_at hl 2 rfl) ?_
  refine uVi (As := [.int px24, .int px25]) (rest := []) (wr := [(ph0, .inr (4, [.ref ph1, .ref ph2, .ref ph3, .ref ph4, .ref ph5, .ref ph6, .ref ph7, .ref ph8, .ref ph9, .int 0])), (ph2, .inl (K 0, 12, .inl pf16)), (ph3, .inl (K 0, 12, .inl pf17)), (ph4, .inl (K 0, 12, .inl pf18)), (ph5, .inl (K 0, 12, .inl pf19)), (ph6, .inl (K 0, 12, .inl pf20)), (ph7, .inl (K 0, 12, .inl pf21)), (ph8, .inl (K 0, 12, .inl pf22)), (ph9, .inl (K 0, 12, .inl pf23))]) [(ph1, .inr (9, [.ref pg10, .ref pg11, .ref pg12, .ref pg13, .ref pg14, .ref pg15, .int 4, .int 4, .int 0]))] B hl.1 hP hD hS [1] [0, 2, 3, 4, 5, 6, 7, 8, 9] rfl rfl rfl (kX9_has_32 l D K _ ph1 pg10 pg11 pg12 pg13 pg14 pg15 px24 px25) wd_X9_has mml_X4_44 rfl rfl rfl rfl ⟨Nat.le_of_ble_eq_true rfl, Nat.le_of_ble_eq_true rfl⟩ (Nat.le_of_ble_eq_true rfl) ⟨Nat.le_of_ble_eq_true rfl, Nat.le_of_ble_eq_true rfl⟩ dX4_add_6 (fun r1 u H locs hw hP hD hS => ?_)
  try dsimp only at hw
  rcases hw with ⟨rfl, w2⟩ | ⟨rfl, ⟨w3, w4, w5, w6⟩⟩
  · have hP : va_P D vwCl [(ph0, .inr (4, [.ref ph1, .ref ph2, .ref ph3, .ref ph4, .ref ph5, .ref ph6, .ref ph7, .ref ph8, .ref ph9, .int 0])), (ph2, .inl (K 0, 12, .inl pf16)), (ph3, .inl (K 0, 12, .inl pf17)), (ph4, .inl (K 0, 12, .inl pf18)), (ph5, .inl (K 0, 12, .inl pf19)), (ph6, .inl (K 0, 12, .inl pf20)), (ph7, .inl (K 0, 12, .inl pf21)), (ph8, .inl (K 0, 12, .inl pf22)), (ph9, .inl (K 0, 12, .inl pf23)), (ph1, .inr (9, [.ref pg10, .ref pg11, .ref pg12, .ref pg13, .ref pg14, .ref pg15, .int 4, .int 4, .int 0]))] H := hP
    have hD : va_D A [(ph0, .inr (4, [.ref ph1, .ref ph2, .ref ph3, .ref ph4, .ref ph5, .ref ph6, .ref ph7, .ref ph8, .ref ph9, .int 0])), (ph2, .inl (K 0, 12, .inl pf16)), (ph3, .inl (K 0, 12, .inl pf17)), (ph4, .inl (K 0, 12, .inl pf18)), (ph5, .inl (K 0, 12, .inl pf19)), (ph6, .inl (K 0, 12, .inl pf20)), (ph7, .inl (K 0, 12, .inl pf21)), (ph8, .inl (K 0, 12, .inl pf22)), (ph9, .inl (K 0, 12, .inl pf23)), (ph1, .inr (9, [.ref pg10, .ref pg11, .ref pg12, .ref pg13, .ref pg14, .ref pg15, .int 4, .int 4, .int 0]))] := hD
    refine lv_pc (q := 9) rfl ?_
    refine lv_if_eq (tgt := 30) hx hb dX4_add_9 (by decide) (fun _ => ?_) (fun h9 => absurd (by decide) h9)
    refine lv_iconst (v := (-1)) hx hb dX4_add_30 (by decide) ?_
    exact uRi (0, pf16, pf17, pf18, pf19, pf20, pf21, pf22, pf23) B (Or.inl ⟨rfl, rfl, Or.inl w2⟩) (uSub hP [0, 9, 1, 2, 3, 4, 5, 6, 7, 8] rfl) (hD.sub [0, 9, 1, 2, 3, 4, 5, 6, 7, 8] rfl rfl) hS dX4_add_31
  have hP : va_P D vwCl [(ph0, .inr (4, [.ref ph1, .ref ph2, .ref ph3, .ref ph4, .ref ph5, .ref ph6, .ref ph7, .ref ph8, .ref ph9, .int 0])), (ph2, .inl (K 0, 12, .inl pf16)), (ph3, .inl (K 0, 12, .inl pf17)), (ph4, .inl (K 0, 12, .inl pf18)), (ph5, .inl (K 0, 12, .inl pf19)), (ph6, .inl (K 0, 12, .inl pf20)), (ph7, .inl (K 0, 12, .inl pf21)), (ph8, .inl (K 0, 12, .inl pf22)), (ph9, .inl (K 0, 12, .inl pf23)), (ph1, .inr (9, [.ref pg10, .ref pg11, .ref pg12, .ref pg13, .ref pg14, .ref pg15, .int 4, .int 4, .int 0]))] H := hP
  have hD : va_D A [(ph0, .inr (4, [.ref ph1, .ref ph2, .ref ph3, .ref ph4, .ref ph5, .ref ph6, .ref ph7, .ref ph8, .ref ph9, .int 0])), (ph2, .inl (K 0, 12, .inl pf16)), (ph3, .inl (K 0, 12, .inl pf17)), (ph4, .inl (K 0, 12, .inl pf18)), (ph5, .inl (K 0, 12, .inl pf19)), (ph6, .inl (K 0, 12, .inl pf20)), (ph7, .inl (K 0, 12, .inl pf21)), (ph8, .inl (K 0, 12, .inl pf22)), (ph9, .inl (K 0, 12, .inl pf23)), (ph1, .inr (9, [.ref pg10, .ref pg11, .ref pg12, .ref pg13, .ref pg14, .ref pg15, .int 4, .int 4, .int 0]))] := hD
  refine lv_pc (q := 9) rfl ?_
  refine lv_if_eq (tgt := 30) hx hb dX4_add_9 (by decide) (fun h9 => absurd h9 (by decide)) (fun _ => ?_)
  refine lv_iload_n hx hb dX4_add_12 rfl (lv_at hl 3 rfl) ?_
  refine lv_iconst (v := 1) hx hb dX4_add_13 (by decide) ?_
  refine lv_icmp_lt (tgt := 30) hx hb dX4_add_14 (by decide) (fun c7 => ?_) (fun c7 => ?_)
  · refine lv_iconst (v := (-1)) hx hb dX4_add_30 (by decide) ?_
    exact uRi (0, pf16, pf17, pf18, pf19, pf20, pf21, pf22, pf23) B (Or.inl ⟨rfl, rfl, Or.inr (Or.inl ⟨w3, w4, w5, w6, c7⟩)⟩) (uSub hP [0, 9, 1, 2, 3, 4, 5, 6, 7, 8] rfl) (hD.sub [0, 9, 1, 2, 3, 4, 5, 6, 7, 8] rfl rfl) hS dX4_add_31
  refine lv_iload_n hx hb dX4_add_17 rfl (lv_at hl 3 rfl) ?_
  refine lv_iload hx hb dX4_add_18 (lv_at hl 4 rfl) ?_
  refine lv_pc (q := 20) rfl ?_
  refine lv_icmp_gt (tgt := 30) hx hb dX4_add_20 (by decide) (fun c8 => ?_) (fun c8 => ?_)
  · refine lv_iconst (v := (-1)) hx hb dX4_add_30 (by decide) ?_
    exact uRi (0, pf16, pf17, pf18, pf19, pf20, pf21, pf22, pf23) B (Or.inl ⟨rfl, rfl, Or.inr (Or.inr (Or.inl ⟨w3, w4, w5, w6, c7, c8⟩))⟩) (uSub hP [0, 9, 1, 2, 3, 4, 5, 6, 7, 8] rfl) (hD.sub [0, 9, 1, 2, 3, 4, 5, 6, 7, 8] rfl rfl) hS dX4_add_31
  refine lv_iload hx hb dX4_add_23 (lv_at hl 4 rfl) ?_
  refine lv_bipush (v := 40) hx hb dX4_add_25 (by decide) ?_
  refine lv_icmp_le (tgt := 32) hx hb dX4_add_27 (by decide) (fun c9 => ?_) (fun c9 => ?_)
  · refine lv_iload hx hb dX4_add_32 (lv_at hl 6 rfl) ?_
    refine lv_if_lt (tgt := 62) hx hb dX4_add_34 (by decide) (fun c10 => ?_) (fun c10 => ?_)
    · refine lv_pc (q := 62) rfl ?_
      refine lv_iconst (v := (-1)) hx hb dX4_add_62 (by decide) ?_
      exact uRi (0, pf16, pf17, pf18, pf19, pf20, pf21, pf22, pf23) B (Or.inl ⟨rfl, rfl, Or.inr (Or.inr (Or.inr (Or.inl ⟨w3, w4, w5, w6, c7, c8, c9, c10⟩)))⟩) (uSub hP [0, 9, 1, 2, 3, 4, 5, 6, 7, 8] rfl) (hD.sub [0, 9, 1, 2, 3, 4, 5, 6, 7, 8] rfl rfl) hS dX4_add_63
    refine lv_pc (q := 37) rfl ?_
    refine lv_iload hx hb dX4_add_37 (lv_at hl 6 rfl) ?_
    refine lv_bipush (v := 50) hx hb dX4_add_39 (by decide) ?_
    refine lv_icmp_gt (tgt := 62) hx hb dX4_add_41 (by decide) (fun c11 => ?_) (fun c11 => ?_)
    · refine lv_iconst (v := (-1)) hx hb dX4_add_62 (by decide) ?_
      exact uRi (0, pf16, pf17, pf18, pf19, pf20, pf21, pf22, pf23) B (Or.inl ⟨rfl, rfl, Or.inr (Or.inr (Or.inr (Or.inr (Or.inl ⟨w3, w4, w5, w6, c7, c8, c9, c10, c11⟩))))⟩) (uSub hP [0, 9, 1, 2, 3, 4, 5, 6, 7, 8] rfl) (hD.sub [0, 9, 1, 2, 3, 4, 5, 6, 7, 8] rfl rfl) hS dX4_add_63
    refine lv_aload_n hx hb dX4_add_44 rfl (lv_at hl 0 rfl) ?_
    refine uGet (ci := 4) (C := RX4) (T := TX4) (N := 10) (v := .int 0) B inlX4 hP 0 rfl rfl 9 rfl mfl_X4_36 rfl rfl dX4_add_45 ?_
    refine lv_bipush (v := 12) hx hb dX4_add_48 (by decide) ?_
    refine lv_pc (q := 50) rfl ?_
    refine lv_icmp_ge (tgt := 62) hx hb dX4_add_50 (by decide) (fun h9 => absurd h9 (by decide)) (fun _ => ?_)
    refine lv_aload_n hx hb dX4_add_53 rfl (lv_at hl 0 rfl) ?_
    refine lv_iload_n hx hb dX4_add_54 rfl (lv_at hl 1 rfl) ?_
    refine lv_iload_n hx hb dX4_add_55 rfl (lv_at hl 2 rfl) ?_
    refine uVi (As := [.int px24, .int px25]) (rest := []) (wr := [(ph2, .inl (K 0, 12, .inl pf16)), (ph3, .inl (K 0, 12, .inl pf17)), (ph4, .inl (K 0, 12, .inl pf18)), (ph5, .inl (K 0, 12, .inl pf19)), (ph6, .inl (K 0, 12, .inl pf20)), (ph7, .inl (K 0, 12, .inl pf21)), (ph8, .inl (K 0, 12, .inl pf22)), (ph9, .inl (K 0, 12, .inl pf23)), (ph1, .inr (9, [.ref pg10, .ref pg11, .ref pg12, .ref pg13, .ref pg14, .ref pg15, .int 4, .int 4, .int 0]))]) [(ph0, .inr (4, [.ref ph1, .ref ph2, .ref ph3, .ref ph4, .ref ph5, .ref ph6, .ref ph7, .ref ph8, .ref ph9, .int 0]))] B hl.1 hP hD hS [0] [1, 2, 3, 4, 5, 6, 7, 8, 9] rfl rfl rfl (kX4_isTaken_48 l D K _ ph0 ph1 ph2 ph3 ph4 ph5 ph6 ph7 ph8 ph9 px24 px25) wd_X4_isTaken mml_X4_50 rfl rfl rfl rfl ⟨Nat.le_of_ble_eq_true rfl, Nat.le_of_ble_eq_true rfl⟩ (Nat.le_of_ble_eq_true rfl) ⟨Nat.le_of_ble_eq_true rfl, Nat.le_of_ble_eq_true rfl⟩ dX4_add_56 (fun r12 u H locs hw hP hD hS => ?_)
    try dsimp only at hw
    rcases hw with rfl
    have hP : va_P D vwCl [(ph2, .inl (K 0, 12, .inl pf16)), (ph3, .inl (K 0, 12, .inl pf17)), (ph4, .inl (K 0, 12, .inl pf18)), (ph5, .inl (K 0, 12, .inl pf19)), (ph6, .inl (K 0, 12, .inl pf20)), (ph7, .inl (K 0, 12, .inl pf21)), (ph8, .inl (K 0, 12, .inl pf22)), (ph9, .inl (K 0, 12, .inl pf23)), (ph1, .inr (9, [.ref pg10, .ref pg11, .ref pg12, .ref pg13, .ref pg14, .ref pg15, .int 4, .int 4, .int 0])), (ph0, .inr (4, [.ref ph1, .ref ph2, .ref ph3, .ref ph4, .ref ph5, .ref ph6, .ref ph7, .ref ph8, .ref ph9, .int 0]))] H := hP
    have hD : va_D A [(ph2, .inl (K 0, 12, .inl pf16)), (ph3, .inl (K 0, 12, .inl pf17)), (ph4, .inl (K 0, 12, .inl pf18)), (ph5, .inl (K 0, 12, .inl pf19)), (ph6, .inl (K 0, 12, .inl pf20)), (ph7, .inl (K 0, 12, .inl pf21)), (ph8, .inl (K 0, 12, .inl pf22)), (ph9, .inl (K 0, 12, .inl pf23)), (ph1, .inr (9, [.ref pg10, .ref pg11, .ref pg12, .ref pg13, .ref pg14, .ref pg15, .int 4, .int 4, .int 0])), (ph0, .inr (4, [.ref ph1, .ref ph2, .ref ph3, .ref ph4, .ref ph5, .ref ph6, .ref ph7, .ref ph8, .ref ph9, .int 0]))] := hD
    refine lv_if_eq (tgt := 64) hx hb dX4_add_59 (by decide) (fun _ => ?_) (fun h9 => absurd (by decide) h9)
    refine lv_pc (q := 64) rfl ?_
    refine lv_aload_n hx hb dX4_add_64 rfl (lv_at hl 0 rfl) ?_
    refine uGet (ci := 4) (C := RX4) (T := TX4) (N := 10) (v := .ref ph2) B inlX4 hP 9 rfl rfl 1 rfl mfl_X4_9 rfl rfl dX4_add_65 ?_
    refine lv_aload_n hx hb dX4_add_68 rfl (lv_at hl 0 rfl) ?_
    refine uGet (ci := 4) (C := RX4) (T := TX4) (N := 10) (v := .int 0) B inlX4 hP 9 rfl rfl 9 rfl mfl_X4_36 rfl rfl dX4_add_69 ?_
    refine lv_iload_n hx hb dX4_add_72 rfl (lv_at hl 1 rfl) ?_
    refine uIast (i := 0) (j := 0) (ws' := [(ph2, .inl (K 0, 12, .inl (upd pf16 0 px24))), (ph3, .inl (K 0, 12, .inl pf17)), (ph4, .inl (K 0, 12, .inl pf18)), (ph5, .inl (K 0, 12, .inl pf19)), (ph6, .inl (K 0, 12, .inl pf20)), (ph7, .inl (K 0, 12, .inl pf21)), (ph8, .inl (K 0, 12, .inl pf22)), (ph9, .inl (K 0, 12, .inl pf23)), (ph1, .inr (9, [.ref pg10, .ref pg11, .ref pg12, .ref pg13, .ref pg14, .ref pg15, .int 4, .int 4, .int 0])), (ph0, .inr (4, [.ref ph1, .ref ph2, .ref ph3, .ref ph4, .ref ph5, .ref ph6, .ref ph7, .ref ph8, .ref ph9, .int 0]))]) B hP hD hS 0 rfl (by decide) rfl rfl dX4_add_73 (fun H locs hP hD hS => ?_)
    refine lv_pc (q := 74) rfl ?_
    refine lv_aload_n hx hb dX4_add_74 rfl (lv_at hl 0 rfl) ?_
    refine uGet (ci := 4) (C := RX4) (T := TX4) (N := 10) (v := .ref ph3) B inlX4 hP 9 rfl rfl 2 rfl mfl_X4_15 rfl rfl dX4_add_75 ?_
    refine lv_aload_n hx hb dX4_add_78 rfl (lv_at hl 0 rfl) ?_
    refine uGet (ci := 4) (C := RX4) (T := TX4) (N := 10) (v := .int 0) B inlX4 hP 9 rfl rfl 9 rfl mfl_X4_36 rfl rfl dX4_add_79 ?_
    refine lv_iload_n hx hb dX4_add_82 rfl (lv_at hl 2 rfl) ?_
    refine uIast (i := 0) (j := 0) (ws' := [(ph2, .inl (K 0, 12, .inl (upd pf16 0 px24))), (ph3, .inl (K 0, 12, .inl (upd pf17 0 px25))), (ph4, .inl (K 0, 12, .inl pf18)), (ph5, .inl (K 0, 12, .inl pf19)), (ph6, .inl (K 0, 12, .inl pf20)), (ph7, .inl (K 0, 12, .inl pf21)), (ph8, .inl (K 0, 12, .inl pf22)), (ph9, .inl (K 0, 12, .inl pf23)), (ph1, .inr (9, [.ref pg10, .ref pg11, .ref pg12, .ref pg13, .ref pg14, .ref pg15, .int 4, .int 4, .int 0])), (ph0, .inr (4, [.ref ph1, .ref ph2, .ref ph3, .ref ph4, .ref ph5, .ref ph6, .ref ph7, .ref ph8, .ref ph9, .int 0]))]) B hP hD hS 1 rfl (by decide) rfl rfl dX4_add_83 (fun H locs hP hD hS => ?_)
    refine lv_pc (q := 84) rfl ?_
    refine lv_aload_n hx hb dX4_add_84 rfl (lv_at hl 0 rfl) ?_
    refine uGet (ci := 4) (C := RX4) (T := TX4) (N := 10) (v := .ref ph4) B inlX4 hP 9 rfl rfl 3 rfl mfl_X4_18 rfl rfl dX4_add_85 ?_
    refine lv_aload_n hx hb dX4_add_88 rfl (lv_at hl 0 rfl) ?_
    refine uGet (ci := 4) (C := RX4) (T := TX4) (N := 10) (v := .int 0) B inlX4 hP 9 rfl rfl 9 rfl mfl_X4_36 rfl rfl dX4_add_89 ?_
    refine lv_iload_n hx hb dX4_add_92 rfl (lv_at hl 1 rfl) ?_
    refine lv_iload_n hx hb dX4_add_93 rfl (lv_at hl 2 rfl) ?_
    refine lv_pc (q := 94) rfl ?_
    refine uSi (As := [.int px24, .int px25]) (rest := [.int 0, .ref ph4]) (wr := [(ph2, .inl (K 0, 12, .inl (upd pf16 0 px24))), (ph3, .inl (K 0, 12, .inl (upd pf17 0 px25))), (ph4, .inl (K 0, 12, .inl pf18)), (ph5, .inl (K 0, 12, .inl pf19)), (ph6, .inl (K 0, 12, .inl pf20)), (ph7, .inl (K 0, 12, .inl pf21)), (ph8, .inl (K 0, 12, .inl pf22)), (ph9, .inl (K 0, 12, .inl pf23)), (ph1, .inr (9, [.ref pg10, .ref pg11, .ref pg12, .ref pg13, .ref pg14, .ref pg15, .int 4, .int 4, .int 0])), (ph0, .inr (4, [.ref ph1, .ref ph2, .ref ph3, .ref ph4, .ref ph5, .ref ph6, .ref ph7, .ref ph8, .ref ph9, .int 0]))]) [] B hl.1 hP hD hS [] [0, 1, 2, 3, 4, 5, 6, 7, 8, 9] rfl rfl rfl (kX9_cell_49 l D K _ px24 px25) wd_X9_cell mml_X4_53 rfl rfl ⟨Nat.le_of_ble_eq_true rfl, Nat.le_of_ble_eq_true rfl⟩ (Nat.le_of_ble_eq_true rfl) ⟨Nat.le_of_ble_eq_true rfl, Nat.le_of_ble_eq_true rfl⟩ dX4_add_94 (fun r13 u H locs hw hP hD hS => ?_)
    try dsimp only at hw
    rcases hw with rfl
    have hP : va_P D vwCl [(ph2, .inl (K 0, 12, .inl (upd pf16 0 px24))), (ph3, .inl (K 0, 12, .inl (upd pf17 0 px25))), (ph4, .inl (K 0, 12, .inl pf18)), (ph5, .inl (K 0, 12, .inl pf19)), (ph6, .inl (K 0, 12, .inl pf20)), (ph7, .inl (K 0, 12, .inl pf21)), (ph8, .inl (K 0, 12, .inl pf22)), (ph9, .inl (K 0, 12, .inl pf23)), (ph1, .inr (9, [.ref pg10, .ref pg11, .ref pg12, .ref pg13, .ref pg14, .ref pg15, .int 4, .int 4, .int 0])), (ph0, .inr (4, [.ref ph1, .ref ph2, .ref ph3, .ref ph4, .ref ph5, .ref ph6, .ref ph7, .ref ph8, .ref ph9, .int 0]))] H := hP
    have hD : va_D A [(ph2, .inl (K 0, 12, .inl (upd pf16 0 px24))), (ph3, .inl (K 0, 12, .inl (upd pf17 0 px25))), (ph4, .inl (K 0, 12, .inl pf18)), (ph5, .inl (K 0, 12, .inl pf19)), (ph6, .inl (K 0, 12, .inl pf20)), (ph7, .inl (K 0, 12, .inl pf21)), (ph8, .inl (K 0, 12, .inl pf22)), (ph9, .inl (K 0, 12, .inl pf23)), (ph1, .inr (9, [.ref pg10, .ref pg11, .ref pg12, .ref pg13, .ref pg14, .ref pg15, .int 4, .int 4, .int 0])), (ph0, .inr (4, [.ref ph1, .ref ph2, .ref ph3, .ref ph4, .ref ph5, .ref ph6, .ref ph7, .ref ph8, .ref ph9, .int 0]))] := hD
    refine uIast (i := 0) (j := 0) (ws' := [(ph2, .inl (K 0, 12, .inl (upd pf16 0 px24))), (ph3, .inl (K 0, 12, .inl (upd pf17 0 px25))), (ph4, .inl (K 0, 12, .inl (upd pf18 0 ((px25 * 16) + px24)))), (ph5, .inl (K 0, 12, .inl pf19)), (ph6, .inl (K 0, 12, .inl pf20)), (ph7, .inl (K 0, 12, .inl pf21)), (ph8, .inl (K 0, 12, .inl pf22)), (ph9, .inl (K 0, 12, .inl pf23)), (ph1, .inr (9, [.ref pg10, .ref pg11, .ref pg12, .ref pg13, .ref pg14, .ref pg15, .int 4, .int 4, .int 0])), (ph0, .inr (4, [.ref ph1, .ref ph2, .ref ph3, .ref ph4, .ref ph5, .ref ph6, .ref ph7, .ref ph8, .ref ph9, .int 0]))]) B hP hD hS 2 rfl (by decide) rfl rfl dX4_add_97 (fun H locs hP hD hS => ?_)
    refine lv_aload_n hx hb dX4_add_98 rfl (lv_at hl 0 rfl) ?_
    refine uGet (ci := 4) (C := RX4) (T := TX4) (N := 10) (v := .ref ph5) B inlX4 hP 9 rfl rfl 4 rfl mfl_X4_21 rfl rfl dX4_add_99 ?_
    refine lv_aload_n hx hb dX4_add_102 rfl (lv_at hl 0 rfl) ?_
    refine uGet (ci := 4) (C := RX4) (T := TX4) (N := 10) (v := .int 0) B inlX4 hP 9 rfl rfl 9 rfl mfl_X4_36 rfl rfl dX4_add_103 ?_
    refine lv_pc (q := 106) rfl ?_
    refine lv_iload_n hx hb dX4_add_106 rfl (lv_at hl 3 rfl) ?_
    refine uIast (i := 0) (j := 0) (ws' := [(ph2, .inl (K 0, 12, .inl (upd pf16 0 px24))), (ph3, .inl (K 0, 12, .inl (upd pf17 0 px25))), (ph4, .inl (K 0, 12, .inl (upd pf18 0 ((px25 * 16) + px24)))), (ph5, .inl (K 0, 12, .inl (upd pf19 0 px26))), (ph6, .inl (K 0, 12, .inl pf20)), (ph7, .inl (K 0, 12, .inl pf21)), (ph8, .inl (K 0, 12, .inl pf22)), (ph9, .inl (K 0, 12, .inl pf23)), (ph1, .inr (9, [.ref pg10, .ref pg11, .ref pg12, .ref pg13, .ref pg14, .ref pg15, .int 4, .int 4, .int 0])), (ph0, .inr (4, [.ref ph1, .ref ph2, .ref ph3, .ref ph4, .ref ph5, .ref ph6, .ref ph7, .ref ph8, .ref ph9, .int 0]))]) B hP hD hS 3 rfl (by decide) rfl rfl dX4_add_107 (fun H locs hP hD hS => ?_)
    refine lv_aload_n hx hb dX4_add_108 rfl (lv_at hl 0 rfl) ?_
    refine uGet (ci := 4) (C := RX4) (T := TX4) (N := 10) (v := .ref ph6) B inlX4 hP 9 rfl rfl 5 rfl mfl_X4_24 rfl rfl dX4_add_109 ?_
    refine lv_aload_n hx hb dX4_add_112 rfl (lv_at hl 0 rfl) ?_
    refine uGet (ci := 4) (C := RX4) (T := TX4) (N := 10) (v := .int 0) B inlX4 hP 9 rfl rfl 9 rfl mfl_X4_36 rfl rfl dX4_add_113 ?_
    refine lv_pc (q := 116) rfl ?_
    refine lv_iload hx hb dX4_add_116 (lv_at hl 4 rfl) ?_
    refine uIast (i := 0) (j := 0) (ws' := [(ph2, .inl (K 0, 12, .inl (upd pf16 0 px24))), (ph3, .inl (K 0, 12, .inl (upd pf17 0 px25))), (ph4, .inl (K 0, 12, .inl (upd pf18 0 ((px25 * 16) + px24)))), (ph5, .inl (K 0, 12, .inl (upd pf19 0 px26))), (ph6, .inl (K 0, 12, .inl (upd pf20 0 px27))), (ph7, .inl (K 0, 12, .inl pf21)), (ph8, .inl (K 0, 12, .inl pf22)), (ph9, .inl (K 0, 12, .inl pf23)), (ph1, .inr (9, [.ref pg10, .ref pg11, .ref pg12, .ref pg13, .ref pg14, .ref pg15, .int 4, .int 4, .int 0])), (ph0, .inr (4, [.ref ph1, .ref ph2, .ref ph3, .ref ph4, .ref ph5, .ref ph6, .ref ph7, .ref ph8, .ref ph9, .int 0]))]) B hP hD hS 4 rfl (by decide) rfl rfl dX4_add_118 (fun H locs hP hD hS => ?_)
    refine lv_aload_n hx hb dX4_add_119 rfl (lv_at hl 0 rfl) ?_
    refine uGet (ci := 4) (C := RX4) (T := TX4) (N := 10) (v := .ref ph7) B inlX4 hP 9 rfl rfl 6 rfl mfl_X4_27 rfl rfl dX4_add_120 ?_
    refine lv_aload_n hx hb dX4_add_123 rfl (lv_at hl 0 rfl) ?_
    refine uGet (ci := 4) (C := RX4) (T := TX4) (N := 10) (v := .int 0) B inlX4 hP 9 rfl rfl 9 rfl mfl_X4_36 rfl rfl dX4_add_124 ?_
    refine lv_pc (q := 127) rfl ?_
    refine lv_iload hx hb dX4_add_127 (lv_at hl 5 rfl) ?_
    refine lv_if_eq (tgt := 136) hx hb dX4_add_129 (by decide) (fun _ => ?_) (fun h9 => absurd (by decide) h9)
    refine lv_iconst (v := 1) hx hb dX4_add_136 (by decide) ?_
    refine uIast (i := 0) (j := 0) (ws' := [(ph2, .inl (K 0, 12, .inl (upd pf16 0 px24))), (ph3, .inl (K 0, 12, .inl (upd pf17 0 px25))), (ph4, .inl (K 0, 12, .inl (upd pf18 0 ((px25 * 16) + px24)))), (ph5, .inl (K 0, 12, .inl (upd pf19 0 px26))), (ph6, .inl (K 0, 12, .inl (upd pf20 0 px27))), (ph7, .inl (K 0, 12, .inl (upd pf21 0 1))), (ph8, .inl (K 0, 12, .inl pf22)), (ph9, .inl (K 0, 12, .inl pf23)), (ph1, .inr (9, [.ref pg10, .ref pg11, .ref pg12, .ref pg13, .ref pg14, .ref pg15, .int 4, .int 4, .int 0])), (ph0, .inr (4, [.ref ph1, .ref ph2, .ref ph3, .ref ph4, .ref ph5, .ref ph6, .ref ph7, .ref ph8, .ref ph9, .int 0]))]) B hP hD hS 5 rfl (by decide) rfl rfl dX4_add_137 (fun H locs hP hD hS => ?_)
    refine lv_aload_n hx hb dX4_add_138 rfl (lv_at hl 0 rfl) ?_
    refine uGet (ci := 4) (C := RX4) (T := TX4) (N := 10) (v := .ref ph8) B inlX4 hP 9 rfl rfl 7 rfl mfl_X4_30 rfl rfl dX4_add_139 ?_
    refine lv_pc (q := 142) rfl ?_
    refine lv_aload_n hx hb dX4_add_142 rfl (lv_at hl 0 rfl) ?_
    refine uGet (ci := 4) (C := RX4) (T := TX4) (N := 10) (v := .int 0) B inlX4 hP 9 rfl rfl 9 rfl mfl_X4_36 rfl rfl dX4_add_143 ?_
    refine lv_iload hx hb dX4_add_146 (lv_at hl 6 rfl) ?_
    refine uIast (i := 0) (j := 0) (ws' := [(ph2, .inl (K 0, 12, .inl (upd pf16 0 px24))), (ph3, .inl (K 0, 12, .inl (upd pf17 0 px25))), (ph4, .inl (K 0, 12, .inl (upd pf18 0 ((px25 * 16) + px24)))), (ph5, .inl (K 0, 12, .inl (upd pf19 0 px26))), (ph6, .inl (K 0, 12, .inl (upd pf20 0 px27))), (ph7, .inl (K 0, 12, .inl (upd pf21 0 1))), (ph8, .inl (K 0, 12, .inl (upd pf22 0 px28))), (ph9, .inl (K 0, 12, .inl pf23)), (ph1, .inr (9, [.ref pg10, .ref pg11, .ref pg12, .ref pg13, .ref pg14, .ref pg15, .int 4, .int 4, .int 0])), (ph0, .inr (4, [.ref ph1, .ref ph2, .ref ph3, .ref ph4, .ref ph5, .ref ph6, .ref ph7, .ref ph8, .ref ph9, .int 0]))]) B hP hD hS 6 rfl (by decide) rfl rfl dX4_add_148 (fun H locs hP hD hS => ?_)
    refine lv_aload_n hx hb dX4_add_149 rfl (lv_at hl 0 rfl) ?_
    refine uGet (ci := 4) (C := RX4) (T := TX4) (N := 10) (v := .ref ph9) B inlX4 hP 9 rfl rfl 8 rfl mfl_X4_33 rfl rfl dX4_add_150 ?_
    refine lv_pc (q := 153) rfl ?_
    refine lv_aload_n hx hb dX4_add_153 rfl (lv_at hl 0 rfl) ?_
    refine uGet (ci := 4) (C := RX4) (T := TX4) (N := 10) (v := .int 0) B inlX4 hP 9 rfl rfl 9 rfl mfl_X4_36 rfl rfl dX4_add_154 ?_
    refine lv_iconst (v := 0) hx hb dX4_add_157 (by decide) ?_
    refine uIast (i := 0) (j := 0) (ws' := [(ph2, .inl (K 0, 12, .inl (upd pf16 0 px24))), (ph3, .inl (K 0, 12, .inl (upd pf17 0 px25))), (ph4, .inl (K 0, 12, .inl (upd pf18 0 ((px25 * 16) + px24)))), (ph5, .inl (K 0, 12, .inl (upd pf19 0 px26))), (ph6, .inl (K 0, 12, .inl (upd pf20 0 px27))), (ph7, .inl (K 0, 12, .inl (upd pf21 0 1))), (ph8, .inl (K 0, 12, .inl (upd pf22 0 px28))), (ph9, .inl (K 0, 12, .inl (upd pf23 0 0))), (ph1, .inr (9, [.ref pg10, .ref pg11, .ref pg12, .ref pg13, .ref pg14, .ref pg15, .int 4, .int 4, .int 0])), (ph0, .inr (4, [.ref ph1, .ref ph2, .ref ph3, .ref ph4, .ref ph5, .ref ph6, .ref ph7, .ref ph8, .ref ph9, .int 0]))]) B hP hD hS 7 rfl (by decide) rfl rfl dX4_add_158 (fun H locs hP hD hS => ?_)
    refine lv_aload_n hx hb dX4_add_159 rfl (lv_at hl 0 rfl) ?_
    refine lv_dup hx hb dX4_add_160 rfl ?_
    refine lv_pc (q := 161) rfl ?_
    refine uGet (ci := 4) (C := RX4) (T := TX4) (N := 10) (v := .int 0) B inlX4 hP 9 rfl rfl 9 rfl mfl_X4_36 rfl rfl dX4_add_161 ?_
    refine lv_iconst (v := 1) hx hb dX4_add_164 (by decide) ?_
    refine lv_iadd hx hb dX4_add_165 ?_
    refine lv_fixi (y := 1) (by decide) ?_
    refine uPut (ci := 4) (C := RX4) (T := TX4) (N := 10) (ws' := [(ph2, .inl (K 0, 12, .inl (upd pf16 0 px24))), (ph3, .inl (K 0, 12, .inl (upd pf17 0 px25))), (ph4, .inl (K 0, 12, .inl (upd pf18 0 ((px25 * 16) + px24)))), (ph5, .inl (K 0, 12, .inl (upd pf19 0 px26))), (ph6, .inl (K 0, 12, .inl (upd pf20 0 px27))), (ph7, .inl (K 0, 12, .inl (upd pf21 0 1))), (ph8, .inl (K 0, 12, .inl (upd pf22 0 px28))), (ph9, .inl (K 0, 12, .inl (upd pf23 0 0))), (ph1, .inr (9, [.ref pg10, .ref pg11, .ref pg12, .ref pg13, .ref pg14, .ref pg15, .int 4, .int 4, .int 0])), (ph0, .inr (4, [.ref ph1, .ref ph2, .ref ph3, .ref ph4, .ref ph5, .ref ph6, .ref ph7, .ref ph8, .ref ph9, .int 1]))]) B inlX4 tyX4_ok nmX4 hP hD hS 9 rfl rfl 9 rfl mfl_X4_36 rfl rfl rfl rfl rfl rfl dX4_add_166 (fun H locs hP hD hS => ?_)
    refine lv_aload_n hx hb dX4_add_169 rfl (lv_at hl 0 rfl) ?_
    refine uGet (ci := 4) (C := RX4) (T := TX4) (N := 10) (v := .int 1) B inlX4 hP 9 rfl rfl 9 rfl mfl_X4_36 rfl rfl dX4_add_170 ?_
    refine lv_pc (q := 173) rfl ?_
    refine lv_iconst (v := 1) hx hb dX4_add_173 (by decide) ?_
    refine lv_isub hx hb dX4_add_174 ?_
    refine lv_fixi (y := 0) (by decide) ?_
    exact uRi (1, upd pf16 0 px24, upd pf17 0 px25, upd pf18 0 ((px25 * 16) + px24), upd pf19 0 px26, upd pf20 0 px27, upd pf21 0 1, upd pf22 0 px28, upd pf23 0 0) B (Or.inr ⟨rfl, rfl, ⟨w3, w4, w5, w6, c7, c8, c9, c10, c11⟩⟩) (uSub hP [9, 8, 0, 1, 2, 3, 4, 5, 6, 7] rfl) (hD.sub [9, 8, 0, 1, 2, 3, 4, 5, 6, 7] rfl rfl) hS dX4_add_175
  refine lv_iconst (v := (-1)) hx hb dX4_add_30 (by decide) ?_
  exact uRi (0, pf16, pf17, pf18, pf19, pf20, pf21, pf22, pf23) B (Or.inl ⟨rfl, rfl, Or.inr (Or.inr (Or.inr (Or.inr (Or.inr ⟨w3, w4, w5, w6, c7, c8, c9⟩))))⟩) (uSub hP [0, 9, 1, 2, 3, 4, 5, 6, 7, 8] rfl) (hD.sub [0, 9, 1, 2, 3, 4, 5, 6, 7, 8] rfl rfl) hS dX4_add_31

def qwX9_has (a_T : Nat) (v_T_width : Nat) (v_T_height : Nat) (v_T_bending : Int32) (a_T_heights : Nat) (a_T_woods : Nat) (a_T_treesLow : Nat) (a_T_treesHigh : Nat) (a_T_worst : Nat) (a_T_best : Nat) (x0 : Int32) (x1 : Int32) : Int32 → (Unit) → Prop := (fun (r : Int32) (u : Unit) => ((r = 0) ∨ (r = 1 ∧ (∃ a : Nat, a < v_T_width ∧ x0 = nI a) ∧ (∃ a : Nat, a < v_T_height ∧ x1 = nI a))))
def vwX9_has (K : Nat → ClassId) (a_T : Nat) (v_T_width : Nat) (v_T_height : Nat) (v_T_bending : Int32) (a_T_heights : Nat) (a_T_woods : Nat) (a_T_treesLow : Nat) (a_T_treesHigh : Nat) (a_T_worst : Nat) (a_T_best : Nat) (x0 : Int32) (x1 : Int32) : (Unit) → va_W := (fun (u : Unit) => [(a_T, .inr (9, [.ref a_T_heights, .ref a_T_woods, .ref a_T_treesLow, .ref a_T_treesHigh, .ref a_T_worst, .ref a_T_best, .int (nI v_T_width), .int (nI v_T_height), .int v_T_bending]))])
set_option maxHeartbeats 4000000 in
set_option maxRecDepth 100000 in
theorem wX9_has (l : Launch) (D : va_G) (K : Nat → ClassId) (sz : Nat) (a_T : Nat) (v_T_width : Nat) (v_T_height : Nat) (v_T_bending : Int32) (a_T_heights : Nat) (a_T_woods : Nat) (a_T_treesLow : Nat) (a_T_treesHigh : Nat) (a_T_worst : Nat) (a_T_best : Nat) (x0 : Int32) (x1 : Int32) (hv_T_width : v_T_width ≤ 16) (gv_T_width : 4 ≤ v_T_width) (hv_T_height : v_T_height ≤ 16) (gv_T_height : 4 ≤ v_T_height) : uMi l yX9_has cX9_has 3 (some .boolean) { frames := 0, cells := 0, slots := 0, locals := 0 } [.ref a_T, .int x0, .int x1] D K [(a_T, .inr (9, [.ref a_T_heights, .ref a_T_woods, .ref a_T_treesLow, .ref a_T_treesHigh, .ref a_T_worst, .ref a_T_best, .int (nI v_T_width), .int (nI v_T_height), .int v_T_bending]))] sz (qwX9_has a_T v_T_width v_T_height v_T_bending a_T_heights a_T_woods a_T_treesLow a_T_treesHigh a_T_worst a_T_best x0 x1) (vwX9_has K a_T v_T_width v_T_height v_T_bending a_T_heights a_T_woods a_T_treesLow a_T_treesHigh a_T_worst a_T_best x0 x1) := by
  refine uMet (Qc := uQi D (qwX9_has a_T v_T_width v_T_height v_T_bending a_T_heights a_T_woods a_T_treesLow a_T_treesHigh a_T_worst a_T_best x0 x1) (vwX9_has K a_T v_T_width v_T_height v_T_bending a_T_heights a_T_woods a_T_treesLow a_T_treesHigh a_T_worst a_T_best x0 x1)) (ret := (some .boolean)) (by decide) (Nat.le_of_ble_eq_true rfl) ?_
  intro p e s m below meth c A ls hAe hsz B hP hD hS hl
  have hx := B.1
  have hb := B.2.1
  have hl : lv_has ls 3 [(0, .ref a_T), (1, .int x0), (2, .int x1)] := hl
  refine lv_iload_n hx hb dX9_has_0 rfl (lv_at hl 1 rfl) ?_
  refine lv_if_lt (tgt := 28) hx hb dX9_has_1 (by decide) (fun c1 => ?_) (fun c1 => ?_)
  · refine lv_iconst (v := 0) hx hb dX9_has_28 (by decide) ?_
    exact uRz () B rfl (Or.inl rfl) (uSub hP [0] rfl) (hD.sub [0] rfl rfl) hS dX9_has_29
  refine lv_iload_n hx hb dX9_has_4 rfl (lv_at hl 1 rfl) ?_
  refine lv_aload_n hx hb dX9_has_5 rfl (lv_at hl 0 rfl) ?_
  refine uGet (ci := 9) (C := RX9) (T := TX9) (N := 9) (v := .int (nI v_T_width)) B inlX9 hP 0 rfl rfl 6 rfl mfl_X9_30 rfl rfl dX9_has_6 ?_
  refine lv_pc (q := 9) rfl ?_
  refine lv_icmp_ge (tgt := 28) hx hb dX9_has_9 (by decide) (fun c2 => ?_) (fun c2 => ?_)
  · refine lv_iconst (v := 0) hx hb dX9_has_28 (by decide) ?_
    exact uRz () B rfl (Or.inl rfl) (uSub hP [0] rfl) (hD.sub [0] rfl rfl) hS dX9_has_29
  refine lv_iload_n hx hb dX9_has_12 rfl (lv_at hl 2 rfl) ?_
  refine lv_if_lt (tgt := 28) hx hb dX9_has_13 (by decide) (fun c3 => ?_) (fun c3 => ?_)
  · refine lv_iconst (v := 0) hx hb dX9_has_28 (by decide) ?_
    exact uRz () B rfl (Or.inl rfl) (uSub hP [0] rfl) (hD.sub [0] rfl rfl) hS dX9_has_29
  refine lv_iload_n hx hb dX9_has_16 rfl (lv_at hl 2 rfl) ?_
  refine lv_aload_n hx hb dX9_has_17 rfl (lv_at hl 0 rfl) ?_
  refine uGet (ci := 9) (C := RX9) (T := TX9) (N := 9) (v := .int (nI v_T_height)) B inlX9 hP 0 rfl rfl 7 rfl mfl_X9_34 rfl rfl dX9_has_18 ?_
  refine lv_pc (q := 21) rfl ?_
  refine lv_icmp_ge (tgt := 28) hx hb dX9_has_21 (by decide) (fun c4 => ?_) (fun c4 => ?_)
  · refine lv_iconst (v := 0) hx hb dX9_has_28 (by decide) ?_
    exact uRz () B rfl (Or.inl rfl) (uSub hP [0] rfl) (hD.sub [0] rfl rfl) hS dX9_has_29
  refine lv_iconst (v := 1) hx hb dX9_has_24 (by decide) ?_
  refine lv_goto (tgt := 29) hx hb dX9_has_25 (by decide) ?_
  exact uRz () B rfl (Or.inr ⟨rfl, (uNatS (by omega) c1 c2), (uNatS (by omega) c3 c4)⟩) (uSub hP [0] rfl) (hD.sub [0] rfl rfl) hS dX9_has_29
def qwX9_cell (x0 : Nat) (x1 : Nat) : Int32 → (Unit) → Prop := (fun (r : Int32) (u : Unit) => (∃ a : Nat, a ≤ x1 * 16 + x0 ∧ r = nI a))
def vwX9_cell (K : Nat → ClassId) (x0 : Nat) (x1 : Nat) : (Unit) → va_W := (fun (u : Unit) => [])
set_option maxHeartbeats 4000000 in
set_option maxRecDepth 100000 in
theorem wX9_cell (l : Launch) (D : va_G) (K : Nat → ClassId) (sz : Nat) (x0 : Nat) (x1 : Nat) (hx0 : x0 < 16) (hx1 : x1 < 16) : uMi l yX9_cell cX9_cell 2 (some .int) { frames := 0, cells := 0, slots := 0, locals := 0 } [.int (nI x0), .int (nI x1)] D K [] sz (qwX9_cell x0 x1) (vwX9_cell K x0 x1) := by
  refine uMet (Qc := uQi D (qwX9_cell x0 x1) (vwX9_cell K x0 x1)) (ret := (some .int)) (by decide) (Nat.le_of_ble_eq_true rfl) ?_
  intro p e s m below meth c A ls hAe hsz B hP hD hS hl
  have hx := B.1
  have hb := B.2.1
  have hl : lv_has ls 2 [(0, .int (nI x0)), (1, .int (nI x1))] := hl
  refine lv_iload_n hx hb dX9_cell_0 rfl (lv_at hl 1 rfl) ?_
  refine lv_bipush (v := 16) hx hb dX9_cell_1 (by decide) ?_
  refine lv_imul hx hb dX9_cell_3 ?_
  refine lv_fixi (y := (nI (x1 * 16))) (by rw [show (16 : Int32) = nI 16 from rfl, pk_mul]) ?_
  refine lv_iload_n hx hb dX9_cell_4 rfl (lv_at hl 0 rfl) ?_
  refine lv_iadd hx hb dX9_cell_5 ?_
  refine lv_fixi (y := (nI ((x1 * 16) + x0))) (by rw [nI_add]) ?_
  refine lv_pc (q := 6) rfl ?_
  exact uRi () B ⟨(x1 * 16) + x0, by omega, rfl⟩ (uSub hP [] rfl) (hD.sub [] rfl rfl) hS dX9_cell_6
def qwX9_curve (a_T : Nat) (v_T_width : Nat) (v_T_height : Nat) (v_T_bending : Int32) (a_T_heights : Nat) (a_T_woods : Nat) (a_T_treesLow : Nat) (a_T_treesHigh : Nat) (a_T_worst : Nat) (a_T_best : Nat) (x0 : Int32) : Int32 → (Int32) → Prop := (fun (r : Int32) (u : Int32) => ((r = 0) ∨ (r = 1)))
def vwX9_curve (K : Nat → ClassId) (a_T : Nat) (v_T_width : Nat) (v_T_height : Nat) (v_T_bending : Int32) (a_T_heights : Nat) (a_T_woods : Nat) (a_T_treesLow : Nat) (a_T_treesHigh : Nat) (a_T_worst : Nat) (a_T_best : Nat) (x0 : Int32) : (Int32) → va_W := (fun (u : Int32) => [(a_T, .inr (9, [.ref a_T_heights, .ref a_T_woods, .ref a_T_treesLow, .ref a_T_treesHigh, .ref a_T_worst, .ref a_T_best, .int (nI v_T_width), .int (nI v_T_height), .int u]))])
set_option maxHeartbeats 4000000 in
set_option maxRecDepth 100000 in
theorem wX9_curve (l : Launch) (D : va_G) (K : Nat → ClassId) (sz : Nat) (a_T : Nat) (v_T_width : Nat) (v_T_height : Nat) (v_T_bending : Int32) (a_T_heights : Nat) (a_T_woods : Nat) (a_T_treesLow : Nat) (a_T_treesHigh : Nat) (a_T_worst : Nat) (a_T_best : Nat) (x0 : Int32) (hv_T_width : v_T_width ≤ 16) (gv_T_width : 4 ≤ v_T_width) (hv_T_height : v_T_height ≤ 16) (gv_T_height : 4 ≤ v_T_height) : uMi l yX9_curve cX9_curve 2 (some .boolean) { frames := 0, cells := 0, slots := 0, locals := 0 } [.ref a_T, .int x0] D K [(a_T, .inr (9, [.ref a_T_heights, .ref a_T_woods, .ref a_T_treesLow, .ref a_T_treesHigh, .ref a_T_worst, .ref a_T_best, .int (nI v_T_width), .int (nI v_T_height), .int v_T_bending]))] sz (qwX9_curve a_T v_T_width v_T_height v_T_bending a_T_heights a_T_woods a_T_treesLow a_T_treesHigh a_T_worst a_T_best x0) (vwX9_curve K a_T v_T_width v_T_height v_T_bending a_T_heights a_T_woods a_T_treesLow a_T_treesHigh a_T_worst a_T_best x0) := by
  refine uMet (Qc := uQi D (qwX9_curve a_T v_T_width v_T_height v_T_bending a_T_heights a_T_woods a_T_treesLow a_T_treesHigh a_T_worst a_T_best x0) (vwX9_curve K a_T v_T_width v_T_height v_T_bending a_T_heights a_T_woods a_T_treesLow a_T_treesHigh a_T_worst a_T_best x0)) (ret := (some .boolean)) (by decide) (Nat.le_of_ble_eq_true rfl) ?_
  intro p e s m below meth c A ls hAe hsz B hP hD hS hl
  have hx := B.1
  have hb := B.2.1
  have hl : lv_has ls 2 [(0, .ref a_T), (1, .int x0)] := hl
  refine lv_iload_n hx hb dX9_curve_0 rfl (lv_at hl 1 rfl) ?_
  refine lv_if_lt (tgt := 11) hx hb dX9_curve_1 (by decide) (fun c1 => ?_) (fun c1 => ?_)
  · refine lv_iconst (v := 0) hx hb dX9_curve_11 (by decide) ?_
    exact uRz v_T_bending B rfl (Or.inl rfl) (uSub hP [0] rfl) (hD.sub [0] rfl rfl) hS dX9_curve_12
  refine lv_iload_n hx hb dX9_curve_4 rfl (lv_at hl 1 rfl) ?_
  refine lv_sipush (v := 999) hx hb dX9_curve_5 (by decide) ?_
  refine lv_icmp_le (tgt := 13) hx hb dX9_curve_8 (by decide) (fun c2 => ?_) (fun c2 => ?_)
  · refine lv_pc (q := 13) rfl ?_
    refine lv_aload_n hx hb dX9_curve_13 rfl (lv_at hl 0 rfl) ?_
    refine lv_iload_n hx hb dX9_curve_14 rfl (lv_at hl 1 rfl) ?_
    refine uPut (ci := 9) (C := RX9) (T := TX9) (N := 9) (ws' := [(a_T, .inr (9, [.ref a_T_heights, .ref a_T_woods, .ref a_T_treesLow, .ref a_T_treesHigh, .ref a_T_worst, .ref a_T_best, .int (nI v_T_width), .int (nI v_T_height), .int x0]))]) B inlX9 tyX9_ok nmX9 hP hD hS 0 rfl rfl 8 rfl mfl_X9_37 rfl rfl rfl rfl rfl rfl dX9_curve_15 (fun H locs hP hD hS => ?_)
    refine lv_iconst (v := 1) hx hb dX9_curve_18 (by decide) ?_
    exact uRz x0 B rfl (Or.inr rfl) (uSub hP [0] rfl) (hD.sub [0] rfl rfl) hS dX9_curve_19
  refine lv_pc (q := 11) rfl ?_
  refine lv_iconst (v := 0) hx hb dX9_curve_11 (by decide) ?_
  exact uRz v_T_bending B rfl (Or.inl rfl) (uSub hP [0] rfl) (hD.sub [0] rfl rfl) hS dX9_curve_12
def qwX9_plant (a_T : Nat) (v_T_width : Nat) (v_T_height : Nat) (v_T_bending : Int32) (a_T_treesLow : Nat) (f_T_treesLow : Nat → Int32) (a_T_treesHigh : Nat) (f_T_treesHigh : Nat → Int32) (a_T_heights : Nat) (a_T_woods : Nat) (a_T_worst : Nat) (a_T_best : Nat) (x0 : Int32) (x1 : Int32) (x2 : Int32) : Int32 → ((Nat → Int32) × (Nat → Int32)) → Prop := (fun (r : Int32) (u : (Nat → Int32) × (Nat → Int32)) => ((r = 0) ∨ (r = 1)))
def vwX9_plant (K : Nat → ClassId) (a_T : Nat) (v_T_width : Nat) (v_T_height : Nat) (v_T_bending : Int32) (a_T_treesLow : Nat) (f_T_treesLow : Nat → Int32) (a_T_treesHigh : Nat) (f_T_treesHigh : Nat → Int32) (a_T_heights : Nat) (a_T_woods : Nat) (a_T_worst : Nat) (a_T_best : Nat) (x0 : Int32) (x1 : Int32) (x2 : Int32) : ((Nat → Int32) × (Nat → Int32)) → va_W := (fun (u : (Nat → Int32) × (Nat → Int32)) => [(a_T, .inr (9, [.ref a_T_heights, .ref a_T_woods, .ref a_T_treesLow, .ref a_T_treesHigh, .ref a_T_worst, .ref a_T_best, .int (nI v_T_width), .int (nI v_T_height), .int v_T_bending])), (a_T_treesLow, .inl (K 0, 4, .inl (u.1))), (a_T_treesHigh, .inl (K 0, 4, .inl (u.2)))])
set_option maxHeartbeats 4000000 in
set_option maxRecDepth 100000 in
theorem wX9_plant (l : Launch) (D : va_G) (K : Nat → ClassId) (sz : Nat) (a_T : Nat) (v_T_width : Nat) (v_T_height : Nat) (v_T_bending : Int32) (a_T_treesLow : Nat) (f_T_treesLow : Nat → Int32) (a_T_treesHigh : Nat) (f_T_treesHigh : Nat → Int32) (a_T_heights : Nat) (a_T_woods : Nat) (a_T_worst : Nat) (a_T_best : Nat) (x0 : Int32) (x1 : Int32) (x2 : Int32) (hv_T_width : v_T_width ≤ 16) (gv_T_width : 4 ≤ v_T_width) (hv_T_height : v_T_height ≤ 16) (gv_T_height : 4 ≤ v_T_height) : uMi l yX9_plant cX9_plant 4 (some .boolean) { frames := 0, cells := 0, slots := 0, locals := 0 } [.ref a_T, .int x0, .int x1, .int x2] D K [(a_T, .inr (9, [.ref a_T_heights, .ref a_T_woods, .ref a_T_treesLow, .ref a_T_treesHigh, .ref a_T_worst, .ref a_T_best, .int (nI v_T_width), .int (nI v_T_height), .int v_T_bending])), (a_T_treesLow, .inl (K 0, 4, .inl f_T_treesLow)), (a_T_treesHigh, .inl (K 0, 4, .inl f_T_treesHigh))] sz (qwX9_plant a_T v_T_width v_T_height v_T_bending a_T_treesLow f_T_treesLow a_T_treesHigh f_T_treesHigh a_T_heights a_T_woods a_T_worst a_T_best x0 x1 x2) (vwX9_plant K a_T v_T_width v_T_height v_T_bending a_T_treesLow f_T_treesLow a_T_treesHigh f_T_treesHigh a_T_heights a_T_woods a_T_worst a_T_best x0 x1 x2) := by
  refine uMet (Qc := uQi D (qwX9_plant a_T v_T_width v_T_height v_T_bending a_T_treesLow f_T_treesLow a_T_treesHigh f_T_treesHigh a_T_heights a_T_woods a_T_worst a_T_best x0 x1 x2) (vwX9_plant K a_T v_T_width v_T_height v_T_bending a_T_treesLow f_T_treesLow a_T_treesHigh f_T_treesHigh a_T_heights a_T_woods a_T_worst a_T_best x0 x1 x2)) (ret := (some .boolean)) (by decide) (Nat.le_of_ble_eq_true rfl) ?_
  intro p e s m below meth c A ls hAe hsz B hP hD hS hl
  have hx := B.1
  have hb := B.2.1
  have hl : lv_has ls 4 [(0, .ref a_T), (1, .int x0), (2, .int x1), (3, .int x2)] := hl
  refine lv_iload_n hx hb dX9_plant_0 rfl (lv_at hl 1 rfl) ?_
  refine lv_iconst (v := 1) hx hb dX9_plant_1 (by decide) ?_
  refine lv_icmp_lt (tgt := 25) hx hb dX9_plant_2 (by decide) (fun c1 => ?_) (fun c1 => ?_)
  · refine lv_iconst (v := 0) hx hb dX9_plant_25 (by decide) ?_
    exact uRz (f_T_treesLow, f_T_treesHigh) B rfl (Or.inl rfl) (uSub hP [0, 1, 2] rfl) (hD.sub [0, 1, 2] rfl rfl) hS dX9_plant_26
  refine lv_iload_n hx hb dX9_plant_5 rfl (lv_at hl 1 rfl) ?_
  refine lv_iconst (v := 4) hx hb dX9_plant_6 (by decide) ?_
  refine lv_pc (q := 7) rfl ?_
  refine lv_icmp_ge (tgt := 25) hx hb dX9_plant_7 (by decide) (fun c2 => ?_) (fun c2 => ?_)
  · refine lv_iconst (v := 0) hx hb dX9_plant_25 (by decide) ?_
    exact uRz (f_T_treesLow, f_T_treesHigh) B rfl (Or.inl rfl) (uSub hP [0, 1, 2] rfl) (hD.sub [0, 1, 2] rfl rfl) hS dX9_plant_26
  refine lv_iload_n hx hb dX9_plant_10 rfl (lv_at hl 2 rfl) ?_
  refine lv_if_lt (tgt := 25) hx hb dX9_plant_11 (by decide) (fun c3 => ?_) (fun c3 => ?_)
  · refine lv_iconst (v := 0) hx hb dX9_plant_25 (by decide) ?_
    exact uRz (f_T_treesLow, f_T_treesHigh) B rfl (Or.inl rfl) (uSub hP [0, 1, 2] rfl) (hD.sub [0, 1, 2] rfl rfl) hS dX9_plant_26
  refine lv_iload_n hx hb dX9_plant_14 rfl (lv_at hl 2 rfl) ?_
  refine lv_iload_n hx hb dX9_plant_15 rfl (lv_at hl 3 rfl) ?_
  refine lv_icmp_gt (tgt := 25) hx hb dX9_plant_16 (by decide) (fun c4 => ?_) (fun c4 => ?_)
  · refine lv_pc (q := 25) rfl ?_
    refine lv_iconst (v := 0) hx hb dX9_plant_25 (by decide) ?_
    exact uRz (f_T_treesLow, f_T_treesHigh) B rfl (Or.inl rfl) (uSub hP [0, 1, 2] rfl) (hD.sub [0, 1, 2] rfl rfl) hS dX9_plant_26
  refine lv_pc (q := 19) rfl ?_
  refine lv_iload_n hx hb dX9_plant_19 rfl (lv_at hl 3 rfl) ?_
  refine lv_bipush (v := 60) hx hb dX9_plant_20 (by decide) ?_
  refine lv_icmp_le (tgt := 27) hx hb dX9_plant_22 (by decide) (fun c5 => ?_) (fun c5 => ?_)
  · refine lv_aload_n hx hb dX9_plant_27 rfl (lv_at hl 0 rfl) ?_
    refine uGet (ci := 9) (C := RX9) (T := TX9) (N := 9) (v := .ref a_T_treesLow) B inlX9 hP 0 rfl rfl 2 rfl mfl_X9_18 rfl rfl dX9_plant_28 ?_
    refine lv_iload_n hx hb dX9_plant_31 rfl (lv_at hl 1 rfl) ?_
    refine lv_pc (q := 32) rfl ?_
    refine lv_iload_n hx hb dX9_plant_32 rfl (lv_at hl 2 rfl) ?_
    refine uIast (i := x0) (j := (x0).toNatClampNeg) (ws' := [(a_T, .inr (9, [.ref a_T_heights, .ref a_T_woods, .ref a_T_treesLow, .ref a_T_treesHigh, .ref a_T_worst, .ref a_T_best, .int (nI v_T_width), .int (nI v_T_height), .int v_T_bending])), (a_T_treesLow, .inl (K 0, 4, .inl (upd f_T_treesLow ((x0).toNatClampNeg) x1))), (a_T_treesHigh, .inl (K 0, 4, .inl f_T_treesHigh))]) B hP hD hS 1 rfl (uIn (by simp only [fa_lt, fa_le, fa_eq, Int32.reduceToInt] at c1 c2; omega) (by simp only [fa_lt, fa_le, fa_eq, Int32.reduceToInt] at c1 c2; omega)) rfl rfl dX9_plant_33 (fun H locs hP hD hS => ?_)
    refine lv_aload_n hx hb dX9_plant_34 rfl (lv_at hl 0 rfl) ?_
    refine uGet (ci := 9) (C := RX9) (T := TX9) (N := 9) (v := .ref a_T_treesHigh) B inlX9 hP 0 rfl rfl 3 rfl mfl_X9_21 rfl rfl dX9_plant_35 ?_
    refine lv_iload_n hx hb dX9_plant_38 rfl (lv_at hl 1 rfl) ?_
    refine lv_iload_n hx hb dX9_plant_39 rfl (lv_at hl 3 rfl) ?_
    refine lv_pc (q := 40) rfl ?_
    refine uIast (i := x0) (j := (x0).toNatClampNeg) (ws' := [(a_T, .inr (9, [.ref a_T_heights, .ref a_T_woods, .ref a_T_treesLow, .ref a_T_treesHigh, .ref a_T_worst, .ref a_T_best, .int (nI v_T_width), .int (nI v_T_height), .int v_T_bending])), (a_T_treesLow, .inl (K 0, 4, .inl (upd f_T_treesLow ((x0).toNatClampNeg) x1))), (a_T_treesHigh, .inl (K 0, 4, .inl (upd f_T_treesHigh ((x0).toNatClampNeg) x2)))]) B hP hD hS 2 rfl (uIn (by simp only [fa_lt, fa_le, fa_eq, Int32.reduceToInt] at c1 c2; omega) (by simp only [fa_lt, fa_le, fa_eq, Int32.reduceToInt] at c1 c2; omega)) rfl rfl dX9_plant_40 (fun H locs hP hD hS => ?_)
    refine lv_iconst (v := 1) hx hb dX9_plant_41 (by decide) ?_
    exact uRz (upd f_T_treesLow ((x0).toNatClampNeg) x1, upd f_T_treesHigh ((x0).toNatClampNeg) x2) B rfl (Or.inr rfl) (uSub hP [0, 1, 2] rfl) (hD.sub [0, 1, 2] rfl rfl) hS dX9_plant_42
  refine lv_iconst (v := 0) hx hb dX9_plant_25 (by decide) ?_
  exact uRz (f_T_treesLow, f_T_treesHigh) B rfl (Or.inl rfl) (uSub hP [0, 1, 2] rfl) (hD.sub [0, 1, 2] rfl rfl) hS dX9_plant_26
def qwX9_topAt (a_T : Nat) (v_T_width : Nat) (v_T_height : Nat) (v_T_bending : Int32) (a_T_heights : Nat) (f_T_heights : Nat → Int32) (a_T_woods : Nat) (f_T_woods : Nat → Int32) (a_T_treesLow : Nat) (f_T_treesLow : Nat → Int32) (a_T_treesHigh : Nat) (f_T_treesHigh : Nat → Int32) (a_T_worst : Nat) (a_T_best : Nat) (x0 : Nat) (x1 : Int32) : Int32 → (Unit) → Prop := (fun (r : Int32) (u : Unit) => True)
def vwX9_topAt (K : Nat → ClassId) (a_T : Nat) (v_T_width : Nat) (v_T_height : Nat) (v_T_bending : Int32) (a_T_heights : Nat) (f_T_heights : Nat → Int32) (a_T_woods : Nat) (f_T_woods : Nat → Int32) (a_T_treesLow : Nat) (f_T_treesLow : Nat → Int32) (a_T_treesHigh : Nat) (f_T_treesHigh : Nat → Int32) (a_T_worst : Nat) (a_T_best : Nat) (x0 : Nat) (x1 : Int32) : (Unit) → va_W := (fun (u : Unit) => [(a_T, .inr (9, [.ref a_T_heights, .ref a_T_woods, .ref a_T_treesLow, .ref a_T_treesHigh, .ref a_T_worst, .ref a_T_best, .int (nI v_T_width), .int (nI v_T_height), .int v_T_bending])), (a_T_heights, .inl (K 0, 256, .inl f_T_heights)), (a_T_woods, .inl (K 0, 256, .inl f_T_woods)), (a_T_treesLow, .inl (K 0, 4, .inl f_T_treesLow)), (a_T_treesHigh, .inl (K 0, 4, .inl f_T_treesHigh))])
set_option maxHeartbeats 4000000 in
set_option maxRecDepth 100000 in
theorem wX9_topAt (l : Launch) (D : va_G) (K : Nat → ClassId) (sz : Nat) (a_T : Nat) (v_T_width : Nat) (v_T_height : Nat) (v_T_bending : Int32) (a_T_heights : Nat) (f_T_heights : Nat → Int32) (a_T_woods : Nat) (f_T_woods : Nat → Int32) (a_T_treesLow : Nat) (f_T_treesLow : Nat → Int32) (a_T_treesHigh : Nat) (f_T_treesHigh : Nat → Int32) (a_T_worst : Nat) (a_T_best : Nat) (x0 : Nat) (x1 : Int32) (hv_T_width : v_T_width ≤ 16) (gv_T_width : 4 ≤ v_T_width) (hv_T_height : v_T_height ≤ 16) (gv_T_height : 4 ≤ v_T_height) (r_T_woods : uRg f_T_woods 0 3) (hx0 : x0 < 256) (hx1 : x1 = 0 ∨ x1 = 1) : uMi l yX9_topAt cX9_topAt 4 (some .int) { frames := 0, cells := 0, slots := 0, locals := 0 } [.ref a_T, .int (nI x0), .int x1] D K [(a_T, .inr (9, [.ref a_T_heights, .ref a_T_woods, .ref a_T_treesLow, .ref a_T_treesHigh, .ref a_T_worst, .ref a_T_best, .int (nI v_T_width), .int (nI v_T_height), .int v_T_bending])), (a_T_heights, .inl (K 0, 256, .inl f_T_heights)), (a_T_woods, .inl (K 0, 256, .inl f_T_woods)), (a_T_treesLow, .inl (K 0, 4, .inl f_T_treesLow)), (a_T_treesHigh, .inl (K 0, 4, .inl f_T_treesHigh))] sz (qwX9_topAt a_T v_T_width v_T_height v_T_bending a_T_heights f_T_heights a_T_woods f_T_woods a_T_treesLow f_T_treesLow a_T_treesHigh f_T_treesHigh a_T_worst a_T_best x0 x1) (vwX9_topAt K a_T v_T_width v_T_height v_T_bending a_T_heights f_T_heights a_T_woods f_T_woods a_T_treesLow f_T_treesLow a_T_treesHigh f_T_treesHigh a_T_worst a_T_best x0 x1) := by
  refine uMet (Qc := uQi D (qwX9_topAt a_T v_T_width v_T_height v_T_bending a_T_heights f_T_heights a_T_woods f_T_woods a_T_treesLow f_T_treesLow a_T_treesHigh f_T_treesHigh a_T_worst a_T_best x0 x1) (vwX9_topAt K a_T v_T_width v_T_height v_T_bending a_T_heights f_T_heights a_T_woods f_T_woods a_T_treesLow f_T_treesLow a_T_treesHigh f_T_treesHigh a_T_worst a_T_best x0 x1)) (ret := (some .int)) (by decide) (Nat.le_of_ble_eq_true rfl) ?_
  intro p e s m below meth c A ls hAe hsz B hP hD hS hl
  have hx := B.1
  have hb := B.2.1
  have hl : lv_has ls 4 [(0, .ref a_T), (1, .int (nI x0)), (2, .int x1)] := hl
  refine lv_aload_n hx hb dX9_topAt_0 rfl (lv_at hl 0 rfl) ?_
  refine uGet (ci := 9) (C := RX9) (T := TX9) (N := 9) (v := .ref a_T_woods) B inlX9 hP 0 rfl rfl 1 rfl mfl_X9_15 rfl rfl dX9_topAt_1 ?_
  refine lv_iload_n hx hb dX9_topAt_4 rfl (lv_at hl 1 rfl) ?_
  refine uIald (i := (nI x0)) (j := x0) B hP 2 rfl (nI_in (by omega) (by omega)) (nI_clamp (by omega)) dX9_topAt_5 ?_
  obtain ⟨a1, ha1, ea1⟩ := uRnat r_T_woods x0 (by decide)
  simp only [Int32.reduceToInt] at ha1
  refine lv_fixi (y := (nI a1)) ea1 ?_
  refine lv_istore_n (lv' := [(3, .int (nI a1)), (0, .ref a_T), (1, .int (nI x0)), (2, .int x1)]) hx hb dX9_topAt_6 rfl hl (by decide) rfl (fun ls hl => ?_)
  refine lv_pc (q := 7) rfl ?_
  refine lv_aload_n hx hb dX9_topAt_7 rfl (lv_at hl 1 rfl) ?_
  refine uGet (ci := 9) (C := RX9) (T := TX9) (N := 9) (v := .ref a_T_heights) B inlX9 hP 0 rfl rfl 0 rfl mfl_X9_11 rfl rfl dX9_topAt_8 ?_
  refine lv_iload_n hx hb dX9_topAt_11 rfl (lv_at hl 2 rfl) ?_
  refine uIald (i := (nI x0)) (j := x0) B hP 1 rfl (nI_in (by omega) (by omega)) (nI_clamp (by omega)) dX9_topAt_12 ?_
  refine lv_iload_n hx hb dX9_topAt_13 rfl (lv_at hl 3 rfl) ?_
  refine lv_if_eq (tgt := 26) hx hb dX9_topAt_14 (by decide) (fun c2 => ?_) (fun c2 => ?_)
  · refine lv_pc (q := 26) rfl ?_
    refine lv_aload_n hx hb dX9_topAt_26 rfl (lv_at hl 1 rfl) ?_
    refine uGet (ci := 9) (C := RX9) (T := TX9) (N := 9) (v := .ref a_T_treesLow) B inlX9 hP 0 rfl rfl 2 rfl mfl_X9_18 rfl rfl dX9_topAt_27 ?_
    refine lv_iload_n hx hb dX9_topAt_30 rfl (lv_at hl 0 rfl) ?_
    refine uIald (i := (nI a1)) (j := a1) B hP 3 rfl (nI_in (by omega) (by omega)) (nI_clamp (by omega)) dX9_topAt_31 ?_
    refine lv_iadd hx hb dX9_topAt_32 ?_
    exact uRi () B trivial (uSub hP [0, 1, 2, 3, 4] rfl) (hD.sub [0, 1, 2, 3, 4] rfl rfl) hS dX9_topAt_33
  refine lv_pc (q := 17) rfl ?_
  refine lv_aload_n hx hb dX9_topAt_17 rfl (lv_at hl 1 rfl) ?_
  refine uGet (ci := 9) (C := RX9) (T := TX9) (N := 9) (v := .ref a_T_treesHigh) B inlX9 hP 0 rfl rfl 3 rfl mfl_X9_21 rfl rfl dX9_topAt_18 ?_
  refine lv_iload_n hx hb dX9_topAt_21 rfl (lv_at hl 0 rfl) ?_
  refine uIald (i := (nI a1)) (j := a1) B hP 4 rfl (nI_in (by omega) (by omega)) (nI_clamp (by omega)) dX9_topAt_22 ?_
  refine lv_goto (tgt := 32) hx hb dX9_topAt_23 (by decide) ?_
  refine lv_iadd hx hb dX9_topAt_32 ?_
  refine lv_pc (q := 33) rfl ?_
  exact uRi () B trivial (uSub hP [0, 1, 2, 3, 4] rfl) (hD.sub [0, 1, 2, 3, 4] rfl rfl) hS dX9_topAt_33
def qwX4_has (a_P : Nat) (v_P_size : Nat) (a_T : Nat) (a_P_xs : Nat) (a_P_ys : Nat) (a_P_cells : Nat) (a_P_lows : Nat) (a_P_highs : Nat) (a_P_states : Nat) (a_P_men : Nat) (a_P_stores : Nat) (x0 : Int32) : Int32 → (Unit) → Prop := (fun (r : Int32) (u : Unit) => ((r = 0) ∨ (r = 1 ∧ (∃ a : Nat, a < v_P_size ∧ x0 = nI a))))
def vwX4_has (K : Nat → ClassId) (a_P : Nat) (v_P_size : Nat) (a_T : Nat) (a_P_xs : Nat) (a_P_ys : Nat) (a_P_cells : Nat) (a_P_lows : Nat) (a_P_highs : Nat) (a_P_states : Nat) (a_P_men : Nat) (a_P_stores : Nat) (x0 : Int32) : (Unit) → va_W := (fun (u : Unit) => [(a_P, .inr (4, [.ref a_T, .ref a_P_xs, .ref a_P_ys, .ref a_P_cells, .ref a_P_lows, .ref a_P_highs, .ref a_P_states, .ref a_P_men, .ref a_P_stores, .int (nI v_P_size)]))])
set_option maxHeartbeats 4000000 in
set_option maxRecDepth 100000 in
theorem wX4_has (l : Launch) (D : va_G) (K : Nat → ClassId) (sz : Nat) (a_P : Nat) (v_P_size : Nat) (a_T : Nat) (a_P_xs : Nat) (a_P_ys : Nat) (a_P_cells : Nat) (a_P_lows : Nat) (a_P_highs : Nat) (a_P_states : Nat) (a_P_men : Nat) (a_P_stores : Nat) (x0 : Int32) (hv_P_size : v_P_size ≤ 12) : uMi l yX4_has cX4_has 2 (some .boolean) { frames := 0, cells := 0, slots := 0, locals := 0 } [.ref a_P, .int x0] D K [(a_P, .inr (4, [.ref a_T, .ref a_P_xs, .ref a_P_ys, .ref a_P_cells, .ref a_P_lows, .ref a_P_highs, .ref a_P_states, .ref a_P_men, .ref a_P_stores, .int (nI v_P_size)]))] sz (qwX4_has a_P v_P_size a_T a_P_xs a_P_ys a_P_cells a_P_lows a_P_highs a_P_states a_P_men a_P_stores x0) (vwX4_has K a_P v_P_size a_T a_P_xs a_P_ys a_P_cells a_P_lows a_P_highs a_P_states a_P_men a_P_stores x0) := by
  refine uMet (Qc := uQi D (qwX4_has a_P v_P_size a_T a_P_xs a_P_ys a_P_cells a_P_lows a_P_highs a_P_states a_P_men a_P_stores x0) (vwX4_has K a_P v_P_size a_T a_P_xs a_P_ys a_P_cells a_P_lows a_P_highs a_P_states a_P_men a_P_stores x0)) (ret := (some .boolean)) (by decide) (Nat.le_of_ble_eq_true rfl) ?_
  intro p e s m below meth c A ls hAe hsz B hP hD hS hl
  have hx := B.1
  have hb := B.2.1
  have hl : lv_has ls 2 [(0, .ref a_P), (1, .int x0)] := hl
  refine lv_iload_n hx hb dX4_has_0 rfl (lv_at hl 1 rfl) ?_
  refine lv_if_lt (tgt := 16) hx hb dX4_has_1 (by decide) (fun c1 => ?_) (fun c1 => ?_)
  · refine lv_iconst (v := 0) hx hb dX4_has_16 (by decide) ?_
    exact uRz () B rfl (Or.inl rfl) (uSub hP [0] rfl) (hD.sub [0] rfl rfl) hS dX4_has_17
  refine lv_iload_n hx hb dX4_has_4 rfl (lv_at hl 1 rfl) ?_
  refine lv_aload_n hx hb dX4_has_5 rfl (lv_at hl 0 rfl) ?_
  refine uGet (ci := 4) (C := RX4) (T := TX4) (N := 10) (v := .int (nI v_P_size)) B inlX4 hP 0 rfl rfl 9 rfl mfl_X4_36 rfl rfl dX4_has_6 ?_
  refine lv_pc (q := 9) rfl ?_
  refine lv_icmp_ge (tgt := 16) hx hb dX4_has_9 (by decide) (fun c2 => ?_) (fun c2 => ?_)
  · refine lv_iconst (v := 0) hx hb dX4_has_16 (by decide) ?_
    exact uRz () B rfl (Or.inl rfl) (uSub hP [0] rfl) (hD.sub [0] rfl rfl) hS dX4_has_17
  refine lv_iconst (v := 1) hx hb dX4_has_12 (by decide) ?_
  refine lv_goto (tgt := 17) hx hb dX4_has_13 (by decide) ?_
  exact uRz () B rfl (Or.inr ⟨rfl, (uNatS (by omega) c1 c2)⟩) (uSub hP [0] rfl) (hD.sub [0] rfl rfl) hS dX4_has_17
def qwX4_stands (a_P : Nat) (v_P_size : Nat) (a_P_states : Nat) (f_P_states : Nat → Int32) (a_T : Nat) (a_P_xs : Nat) (a_P_ys : Nat) (a_P_cells : Nat) (a_P_lows : Nat) (a_P_highs : Nat) (a_P_men : Nat) (a_P_stores : Nat) (x0 : Int32) : Int32 → (Unit) → Prop := (fun (r : Int32) (u : Unit) => ((r = 0) ∨ (r = 1 ∧ (∃ a : Nat, a < v_P_size ∧ x0 = nI a))))
def vwX4_stands (K : Nat → ClassId) (a_P : Nat) (v_P_size : Nat) (a_P_states : Nat) (f_P_states : Nat → Int32) (a_T : Nat) (a_P_xs : Nat) (a_P_ys : Nat) (a_P_cells : Nat) (a_P_lows : Nat) (a_P_highs : Nat) (a_P_men : Nat) (a_P_stores : Nat) (x0 : Int32) : (Unit) → va_W := (fun (u : Unit) => [(a_P, .inr (4, [.ref a_T, .ref a_P_xs, .ref a_P_ys, .ref a_P_cells, .ref a_P_lows, .ref a_P_highs, .ref a_P_states, .ref a_P_men, .ref a_P_stores, .int (nI v_P_size)])), (a_P_states, .inl (K 0, 12, .inl f_P_states))])
set_option maxHeartbeats 4000000 in
set_option maxRecDepth 100000 in
theorem wX4_stands (l : Launch) (D : va_G) (K : Nat → ClassId) (sz : Nat) (a_P : Nat) (v_P_size : Nat) (a_P_states : Nat) (f_P_states : Nat → Int32) (a_T : Nat) (a_P_xs : Nat) (a_P_ys : Nat) (a_P_cells : Nat) (a_P_lows : Nat) (a_P_highs : Nat) (a_P_men : Nat) (a_P_stores : Nat) (x0 : Int32) (hv_P_size : v_P_size ≤ 12) : uMi l yX4_stands cX4_stands 2 (some .boolean) { frames := 1, cells := 0, slots := 0, locals := 21 } [.ref a_P, .int x0] D K [(a_P, .inr (4, [.ref a_T, .ref a_P_xs, .ref a_P_ys, .ref a_P_cells, .ref a_P_lows, .ref a_P_highs, .ref a_P_states, .ref a_P_men, .ref a_P_stores, .int (nI v_P_size)])), (a_P_states, .inl (K 0, 12, .inl f_P_states))] sz (qwX4_stands a_P v_P_size a_P_states f_P_states a_T a_P_xs a_P_ys a_P_cells a_P_lows a_P_highs a_P_men a_P_stores x0) (vwX4_stands K a_P v_P_size a_P_states f_P_states a_T a_P_xs a_P_ys a_P_cells a_P_lows a_P_highs a_P_men a_P_stores x0) := by
  refine uMet (Qc := uQi D (qwX4_stands a_P v_P_size a_P_states f_P_states a_T a_P_xs a_P_ys a_P_cells a_P_lows a_P_highs a_P_men a_P_stores x0) (vwX4_stands K a_P v_P_size a_P_states f_P_states a_T a_P_xs a_P_ys a_P_cells a_P_lows a_P_highs a_P_men a_P_stores x0)) (ret := (some .boolean)) (by decide) (Nat.le_of_ble_eq_true rfl) ?_
  intro p e s m below meth c A ls hAe hsz B hP hD hS hl
  have hx := B.1
  have hb := B.2.1
  have hl : lv_has ls 2 [(0, .ref a_P), (1, .int x0)] := hl
  refine lv_aload_n hx hb dX4_stands_0 rfl (lv_at hl 0 rfl) ?_
  refine lv_iload_n hx hb dX4_stands_1 rfl (lv_at hl 1 rfl) ?_
  refine uViJ (As := [.int x0]) (rest := []) (wr := [(a_P_states, .inl (K 0, 12, .inl f_P_states))]) (wX4_has l D K _ a_P v_P_size a_T a_P_xs a_P_ys a_P_cells a_P_lows a_P_highs a_P_states a_P_men a_P_stores x0 (by omega)) B hl.1 hP hD hS [0] [1] rfl rfl rfl wd_X4_has mml_X4_57 rfl rfl rfl rfl ⟨Nat.le_of_ble_eq_true rfl, Nat.le_of_ble_eq_true rfl⟩ (Nat.le_of_ble_eq_true rfl) ⟨Nat.le_of_ble_eq_true rfl, Nat.le_of_ble_eq_true rfl⟩ dX4_stands_2 (fun r1 u H locs hw hP hD hS => ?_)
  try dsimp only at hw
  have w2 := hw
  have hP : va_P D vwCl [(a_P_states, .inl (K 0, 12, .inl f_P_states)), (a_P, .inr (4, [.ref a_T, .ref a_P_xs, .ref a_P_ys, .ref a_P_cells, .ref a_P_lows, .ref a_P_highs, .ref a_P_states, .ref a_P_men, .ref a_P_stores, .int (nI v_P_size)]))] H := hP
  have hD := uDPJ hP hD
  rcases w2 with rfl | ⟨rfl, w3⟩
  · refine lv_if_eq (tgt := 22) hx hb dX4_stands_5 (by decide) (fun _ => ?_) (fun h9 => absurd (by decide) h9)
    refine lv_iconst (v := 0) hx hb dX4_stands_22 (by decide) ?_
    refine lv_pc (q := 23) rfl ?_
    exact uRz () B rfl (Or.inl rfl) (uSub hP [1, 0] rfl) (hD.sub [1, 0] rfl rfl) hS dX4_stands_23
  obtain ⟨a4, ha4, ea4⟩ := w3
  refine lv_if_eq (tgt := 22) hx hb dX4_stands_5 (by decide) (fun h9 => absurd h9 (by decide)) (fun _ => ?_)
  refine lv_aload_n hx hb dX4_stands_8 rfl (lv_at hl 0 rfl) ?_
  refine lv_pc (q := 9) rfl ?_
  refine uGet (ci := 4) (C := RX4) (T := TX4) (N := 10) (v := .ref a_P_states) B inlX4 hP 1 rfl rfl 6 rfl mfl_X4_27 rfl rfl dX4_stands_9 ?_
  refine lv_iload_n hx hb dX4_stands_12 rfl (lv_at hl 1 rfl) ?_
  refine lv_fixi (y := (nI a4)) ea4 ?_
  refine uIald (i := (nI a4)) (j := a4) B hP 0 rfl (nI_in (by omega) (by omega)) (nI_clamp (by omega)) dX4_stands_13 ?_
  refine lv_iconst (v := 2) hx hb dX4_stands_14 (by decide) ?_
  refine lv_icmp_eq (tgt := 22) hx hb dX4_stands_15 (by decide) (fun c5 => ?_) (fun c5 => ?_)
  · refine lv_iconst (v := 0) hx hb dX4_stands_22 (by decide) ?_
    refine lv_pc (q := 23) rfl ?_
    exact uRz () B rfl (Or.inl rfl) (uSub hP [1, 0] rfl) (hD.sub [1, 0] rfl rfl) hS dX4_stands_23
  refine lv_iconst (v := 1) hx hb dX4_stands_18 (by decide) ?_
  refine lv_pc (q := 19) rfl ?_
  refine lv_goto (tgt := 23) hx hb dX4_stands_19 (by decide) ?_
  exact uRz () B rfl (Or.inr ⟨rfl, ⟨a4, by omega, ea4⟩⟩) (uSub hP [1, 0] rfl) (hD.sub [1, 0] rfl rfl) hS dX4_stands_23
def qwX4_arePair (a_P : Nat) (v_P_size : Nat) (a_P_states : Nat) (f_P_states : Nat → Int32) (a_T : Nat) (a_P_xs : Nat) (a_P_ys : Nat) (a_P_cells : Nat) (a_P_lows : Nat) (a_P_highs : Nat) (a_P_men : Nat) (a_P_stores : Nat) (x0 : Int32) (x1 : Int32) : Int32 → (Unit) → Prop := (fun (r : Int32) (u : Unit) => ((r = 0) ∨ (r = 1 ∧ (∃ a : Nat, a < v_P_size ∧ x0 = nI a) ∧ (∃ a : Nat, a < v_P_size ∧ x1 = nI a))))
def vwX4_arePair (K : Nat → ClassId) (a_P : Nat) (v_P_size : Nat) (a_P_states : Nat) (f_P_states : Nat → Int32) (a_T : Nat) (a_P_xs : Nat) (a_P_ys : Nat) (a_P_cells : Nat) (a_P_lows : Nat) (a_P_highs : Nat) (a_P_men : Nat) (a_P_stores : Nat) (x0 : Int32) (x1 : Int32) : (Unit) → va_W := (fun (u : Unit) => [(a_P, .inr (4, [.ref a_T, .ref a_P_xs, .ref a_P_ys, .ref a_P_cells, .ref a_P_lows, .ref a_P_highs, .ref a_P_states, .ref a_P_men, .ref a_P_stores, .int (nI v_P_size)])), (a_P_states, .inl (K 0, 12, .inl f_P_states))])
set_option maxHeartbeats 4000000 in
set_option maxRecDepth 100000 in
theorem wX4_arePair (l : Launch) (D : va_G) (K : Nat → ClassId) (sz : Nat) (a_P : Nat) (v_P_size : Nat) (a_P_states : Nat) (f_P_states : Nat → Int32) (a_T : Nat) (a_P_xs : Nat) (a_P_ys : Nat) (a_P_cells : Nat) (a_P_lows : Nat) (a_P_highs : Nat) (a_P_men : Nat) (a_P_stores : Nat) (x0 : Int32) (x1 : Int32) (hv_P_size : v_P_size ≤ 12) : uMi l yX4_arePair cX4_arePair 3 (some .boolean) { frames := 2, cells := 0, slots := 0, locals := 42 } [.ref a_P, .int x0, .int x1] D K [(a_P, .inr (4, [.ref a_T, .ref a_P_xs, .ref a_P_ys, .ref a_P_cells, .ref a_P_lows, .ref a_P_highs, .ref a_P_states, .ref a_P_men, .ref a_P_stores, .int (nI v_P_size)])), (a_P_states, .inl (K 0, 12, .inl f_P_states))] sz (qwX4_arePair a_P v_P_size a_P_states f_P_states a_T a_P_xs a_P_ys a_P_cells a_P_lows a_P_highs a_P_men a_P_stores x0 x1) (vwX4_arePair K a_P v_P_size a_P_states f_P_states a_T a_P_xs a_P_ys a_P_cells a_P_lows a_P_highs a_P_men a_P_stores x0 x1) := by
  refine uMet (Qc := uQi D (qwX4_arePair a_P v_P_size a_P_states f_P_states a_T a_P_xs a_P_ys a_P_cells a_P_lows a_P_highs a_P_men a_P_stores x0 x1) (vwX4_arePair K a_P v_P_size a_P_states f_P_states a_T a_P_xs a_P_ys a_P_cells a_P_lows a_P_highs a_P_men a_P_stores x0 x1)) (ret := (some .boolean)) (by decide) (Nat.le_of_ble_eq_true rfl) ?_
  intro p e s m below meth c A ls hAe hsz B hP hD hS hl
  have hx := B.1
  have hb := B.2.1
  have hl : lv_has ls 3 [(0, .ref a_P), (1, .int x0), (2, .int x1)] := hl
  refine lv_iload_n hx hb dX4_arePair_0 rfl (lv_at hl 1 rfl) ?_
  refine lv_iload_n hx hb dX4_arePair_1 rfl (lv_at hl 2 rfl) ?_
  refine lv_icmp_eq (tgt := 25) hx hb dX4_arePair_2 (by decide) (fun c1 => ?_) (fun c1 => ?_)
  · refine lv_iconst (v := 0) hx hb dX4_arePair_25 (by decide) ?_
    exact uRz () B rfl (Or.inl rfl) (uSub hP [0, 1] rfl) (hD.sub [0, 1] rfl rfl) hS dX4_arePair_26
  refine lv_aload_n hx hb dX4_arePair_5 rfl (lv_at hl 0 rfl) ?_
  refine lv_iload_n hx hb dX4_arePair_6 rfl (lv_at hl 1 rfl) ?_
  refine lv_pc (q := 7) rfl ?_
  refine uViJ (As := [.int x0]) (rest := []) (wr := []) (wX4_stands l D K _ a_P v_P_size a_P_states f_P_states a_T a_P_xs a_P_ys a_P_cells a_P_lows a_P_highs a_P_men a_P_stores x0 (by omega)) B hl.1 hP hD hS [0, 1] [] rfl rfl rfl wd_X4_stands mml_X4_60 rfl rfl rfl rfl ⟨Nat.le_of_ble_eq_true rfl, Nat.le_of_ble_eq_true rfl⟩ (Nat.le_of_ble_eq_true rfl) ⟨Nat.le_of_ble_eq_true rfl, Nat.le_of_ble_eq_true rfl⟩ dX4_arePair_7 (fun r2 u H locs hw hP hD hS => ?_)
  try dsimp only at hw
  have w3 := hw
  have hP : va_P D vwCl [(a_P, .inr (4, [.ref a_T, .ref a_P_xs, .ref a_P_ys, .ref a_P_cells, .ref a_P_lows, .ref a_P_highs, .ref a_P_states, .ref a_P_men, .ref a_P_stores, .int (nI v_P_size)])), (a_P_states, .inl (K 0, 12, .inl f_P_states))] H := hP
  have hD := uDPJ hP hD
  rcases w3 with rfl | ⟨rfl, w4⟩
  · refine lv_if_eq (tgt := 25) hx hb dX4_arePair_10 (by decide) (fun _ => ?_) (fun h9 => absurd (by decide) h9)
    refine lv_iconst (v := 0) hx hb dX4_arePair_25 (by decide) ?_
    exact uRz () B rfl (Or.inl rfl) (uSub hP [0, 1] rfl) (hD.sub [0, 1] rfl rfl) hS dX4_arePair_26
  obtain ⟨a5, ha5, ea5⟩ := w4
  refine lv_if_eq (tgt := 25) hx hb dX4_arePair_10 (by decide) (fun h9 => absurd h9 (by decide)) (fun _ => ?_)
  refine lv_aload_n hx hb dX4_arePair_13 rfl (lv_at hl 0 rfl) ?_
  refine lv_iload_n hx hb dX4_arePair_14 rfl (lv_at hl 2 rfl) ?_
  refine uViJ (As := [.int x1]) (rest := []) (wr := []) (wX4_stands l D K _ a_P v_P_size a_P_states f_P_states a_T a_P_xs a_P_ys a_P_cells a_P_lows a_P_highs a_P_men a_P_stores x1 (by omega)) B hl.1 hP hD hS [0, 1] [] rfl rfl rfl wd_X4_stands mml_X4_60 rfl rfl rfl rfl ⟨Nat.le_of_ble_eq_true rfl, Nat.le_of_ble_eq_true rfl⟩ (Nat.le_of_ble_eq_true rfl) ⟨Nat.le_of_ble_eq_true rfl, Nat.le_of_ble_eq_true rfl⟩ dX4_arePair_15 (fun r6 u H locs hw hP hD hS => ?_)
  try dsimp only at hw
  have w7 := hw
  have hP : va_P D vwCl [(a_P, .inr (4, [.ref a_T, .ref a_P_xs, .ref a_P_ys, .ref a_P_cells, .ref a_P_lows, .ref a_P_highs, .ref a_P_states, .ref a_P_men, .ref a_P_stores, .int (nI v_P_size)])), (a_P_states, .inl (K 0, 12, .inl f_P_states))] H := hP
  have hD := uDPJ hP hD
  rcases w7 with rfl | ⟨rfl, w8⟩
  · refine lv_if_eq (tgt := 25) hx hb dX4_arePair_18 (by decide) (fun _ => ?_) (fun h9 => absurd (by decide) h9)
    refine lv_pc (q := 25) rfl ?_
    refine lv_iconst (v := 0) hx hb dX4_arePair_25 (by decide) ?_
    exact uRz () B rfl (Or.inl rfl) (uSub hP [0, 1] rfl) (hD.sub [0, 1] rfl rfl) hS dX4_arePair_26
  obtain ⟨a9, ha9, ea9⟩ := w8
  refine lv_if_eq (tgt := 25) hx hb dX4_arePair_18 (by decide) (fun h9 => absurd h9 (by decide)) (fun _ => ?_)
  refine lv_pc (q := 21) rfl ?_
  refine lv_iconst (v := 1) hx hb dX4_arePair_21 (by decide) ?_
  refine lv_goto (tgt := 26) hx hb dX4_arePair_22 (by decide) ?_
  exact uRz () B rfl (Or.inr ⟨rfl, ⟨a5, by omega, ea5⟩, ⟨a9, by omega, ea9⟩⟩) (uSub hP [0, 1] rfl) (hD.sub [0, 1] rfl rfl) hS dX4_arePair_26
def qwX4_isTaken (a_P : Nat) (v_P_size : Nat) (a_P_xs : Nat) (f_P_xs : Nat → Int32) (a_P_ys : Nat) (f_P_ys : Nat → Int32) (a_T : Nat) (a_P_cells : Nat) (a_P_lows : Nat) (a_P_highs : Nat) (a_P_states : Nat) (a_P_men : Nat) (a_P_stores : Nat) (x0 : Int32) (x1 : Int32) : Int32 → (Unit) → Prop := (fun (r : Int32) (u : Unit) => ((r = 0) ∨ (r = 1)))
def vwX4_isTaken (K : Nat → ClassId) (a_P : Nat) (v_P_size : Nat) (a_P_xs : Nat) (f_P_xs : Nat → Int32) (a_P_ys : Nat) (f_P_ys : Nat → Int32) (a_T : Nat) (a_P_cells : Nat) (a_P_lows : Nat) (a_P_highs : Nat) (a_P_states : Nat) (a_P_men : Nat) (a_P_stores : Nat) (x0 : Int32) (x1 : Int32) : (Unit) → va_W := (fun (u : Unit) => [(a_P, .inr (4, [.ref a_T, .ref a_P_xs, .ref a_P_ys, .ref a_P_cells, .ref a_P_lows, .ref a_P_highs, .ref a_P_states, .ref a_P_men, .ref a_P_stores, .int (nI v_P_size)])), (a_P_xs, .inl (K 0, 12, .inl f_P_xs)), (a_P_ys, .inl (K 0, 12, .inl f_P_ys))])
set_option maxHeartbeats 4000000 in
set_option maxRecDepth 100000 in
theorem wX4_isTaken (l : Launch) (D : va_G) (K : Nat → ClassId) (sz : Nat) (a_P : Nat) (v_P_size : Nat) (a_P_xs : Nat) (f_P_xs : Nat → Int32) (a_P_ys : Nat) (f_P_ys : Nat → Int32) (a_T : Nat) (a_P_cells : Nat) (a_P_lows : Nat) (a_P_highs : Nat) (a_P_states : Nat) (a_P_men : Nat) (a_P_stores : Nat) (x0 : Int32) (x1 : Int32) (hv_P_size : v_P_size ≤ 12) (r_P_xs : uRg f_P_xs 0 15) (r_P_ys : uRg f_P_ys 0 15) : uMi l yX4_isTaken cX4_isTaken 4 (some .boolean) { frames := 0, cells := 0, slots := 0, locals := 0 } [.ref a_P, .int x0, .int x1] D K [(a_P, .inr (4, [.ref a_T, .ref a_P_xs, .ref a_P_ys, .ref a_P_cells, .ref a_P_lows, .ref a_P_highs, .ref a_P_states, .ref a_P_men, .ref a_P_stores, .int (nI v_P_size)])), (a_P_xs, .inl (K 0, 12, .inl f_P_xs)), (a_P_ys, .inl (K 0, 12, .inl f_P_ys))] sz (qwX4_isTaken a_P v_P_size a_P_xs f_P_xs a_P_ys f_P_ys a_T a_P_cells a_P_lows a_P_highs a_P_states a_P_men a_P_stores x0 x1) (vwX4_isTaken K a_P v_P_size a_P_xs f_P_xs a_P_ys f_P_ys a_T a_P_cells a_P_lows a_P_highs a_P_states a_P_men a_P_stores x0 x1) := by
  refine uMet (Qc := uQi D (qwX4_isTaken a_P v_P_size a_P_xs f_P_xs a_P_ys f_P_ys a_T a_P_cells a_P_lows a_P_highs a_P_states a_P_men a_P_stores x0 x1) (vwX4_isTaken K a_P v_P_size a_P_xs f_P_xs a_P_ys f_P_ys a_T a_P_cells a_P_lows a_P_highs a_P_states a_P_men a_P_stores x0 x1)) (ret := (some .boolean)) (by decide) (Nat.le_of_ble_eq_true rfl) ?_
  intro p e s m below meth c A ls hAe hsz B hP hD hS hl
  have hx := B.1
  have hb := B.2.1
  have hl : lv_has ls 4 [(0, .ref a_P), (1, .int x0), (2, .int x1)] := hl
  refine lv_iconst (v := 0) hx hb dX4_isTaken_0 (by decide) ?_
  refine lv_istore_n (lv' := [(3, .int 0), (0, .ref a_P), (1, .int x0), (2, .int x1)]) hx hb dX4_isTaken_1 rfl hl (by decide) rfl (fun ls hl => ?_)
  have L3 : ∀ (n9 : Nat) (j1 : Nat), (j1 ≤ v_P_size) → v_P_size - j1 < n9 → ∀ (H : Heap) (locs : List Loc) (ls : Array Slot), va_P D vwCl [(a_P, .inr (4, [.ref a_T, .ref a_P_xs, .ref a_P_ys, .ref a_P_cells, .ref a_P_lows, .ref a_P_highs, .ref a_P_states, .ref a_P_men, .ref a_P_stores, .int (nI v_P_size)])), (a_P_xs, .inl (K 0, 12, .inl f_P_xs)), (a_P_ys, .inl (K 0, 12, .inl f_P_ys))] H → va_D A [(a_P, .inr (4, [.ref a_T, .ref a_P_xs, .ref a_P_ys, .ref a_P_cells, .ref a_P_lows, .ref a_P_highs, .ref a_P_states, .ref a_P_men, .ref a_P_stores, .int (nI v_P_size)])), (a_P_xs, .inl (K 0, 12, .inl f_P_xs)), (a_P_ys, .inl (K 0, 12, .inl f_P_ys))] → va_S A s.heap H locs → lv_has ls 4 [(3, .int (nI j1)), (0, .ref a_P), (1, .int x0), (2, .int x1)] → W p l e { frames := 0, cells := 0, slots := 0, locals := 0 } s m ([.ref a_P, .int x0, .int x1] : List Value).toArray below meth c H locs 0 0 (MQ below (uQi D (qwX4_isTaken a_P v_P_size a_P_xs f_P_xs a_P_ys f_P_ys a_T a_P_cells a_P_lows a_P_highs a_P_states a_P_men a_P_stores x0 x1) (vwX4_isTaken K a_P v_P_size a_P_xs f_P_xs a_P_ys f_P_ys a_T a_P_cells a_P_lows a_P_highs a_P_states a_P_men a_P_stores x0 x1) A) ([.ref a_P, .int x0, .int x1] : List Value).toArray s 0 0 A) (F0 m 2 ls []) := by
    intro n9
    induction n9 with
    | zero => intros; exact absurd ‹_ < 0› (Nat.not_lt_zero _)
    | succ n2_ ih2 =>
      intro j1 hj1 hm2 H locs ls hP hD hS hl
      refine lv_iload_n hx hb dX4_isTaken_2 rfl (lv_at hl 0 rfl) ?_
      refine lv_aload_n hx hb dX4_isTaken_3 rfl (lv_at hl 1 rfl) ?_
      refine uGet (ci := 4) (C := RX4) (T := TX4) (N := 10) (v := .int (nI v_P_size)) B inlX4 hP 0 rfl rfl 9 rfl mfl_X4_36 rfl rfl dX4_isTaken_4 ?_
      refine lv_pc (q := 7) rfl ?_
      refine lv_icmp_ge (tgt := 38) hx hb dX4_isTaken_7 (by decide) (fun c4 => ?_) (fun c4 => ?_)
      · have k_4 : v_P_size ≤ j1 := (nI_leI (a := v_P_size) (b := j1) (by omega) (by omega)).mp c4
        refine lv_iconst (v := 0) hx hb dX4_isTaken_38 (by decide) ?_
        exact uRz () B rfl (Or.inl rfl) (uSub hP [0, 1, 2] rfl) (hD.sub [0, 1, 2] rfl rfl) hS dX4_isTaken_39
      have k_4 : ¬ v_P_size ≤ j1 := fun h9 => c4 ((nI_leI (a := v_P_size) (b := j1) (by omega) (by omega)).mpr h9)
      refine lv_aload_n hx hb dX4_isTaken_10 rfl (lv_at hl 1 rfl) ?_
      refine uGet (ci := 4) (C := RX4) (T := TX4) (N := 10) (v := .ref a_P_xs) B inlX4 hP 0 rfl rfl 1 rfl mfl_X4_9 rfl rfl dX4_isTaken_11 ?_
      refine lv_iload_n hx hb dX4_isTaken_14 rfl (lv_at hl 0 rfl) ?_
      refine uIald (i := (nI j1)) (j := j1) B hP 1 rfl (nI_in (by omega) (by omega)) (nI_clamp (by omega)) dX4_isTaken_15 ?_
      obtain ⟨a5, ha5, ea5⟩ := uRnat r_P_xs j1 (by decide)
      simp only [Int32.reduceToInt] at ha5
      refine lv_fixi (y := (nI a5)) ea5 ?_
      refine lv_iload_n hx hb dX4_isTaken_16 rfl (lv_at hl 2 rfl) ?_
      refine lv_pc (q := 17) rfl ?_
      refine lv_icmp_ne (tgt := 32) hx hb dX4_isTaken_17 (by decide) (fun c6 => ?_) (fun c6 => ?_)
      · refine lv_iinc (v := nI (j1 + 1)) (lv' := [(3, .int (nI (j1 + 1))), (0, .ref a_P), (1, .int x0), (2, .int x1)]) hx hb dX4_isTaken_32 hl (k := 0) rfl (nI_1 _) (by decide) rfl (fun ls hl => ?_)
        refine lv_goto (tgt := 2) hx hb dX4_isTaken_35 (by decide) ?_
        refine lv_pc (q := 2) rfl ?_
        refine W.widen (k := 0) (n := 0) (Nat.le_of_ble_eq_true rfl) (Nat.le_of_ble_eq_true rfl) ?_
        exact ih2 (j1 + 1) (by omega) (by omega) _ _ _ (uSub hP [0, 1, 2] rfl) (hD.sub [0, 1, 2] rfl rfl) hS (lv_sub hl [0, 1, 2, 3] rfl)
      refine lv_aload_n hx hb dX4_isTaken_20 rfl (lv_at hl 1 rfl) ?_
      refine uGet (ci := 4) (C := RX4) (T := TX4) (N := 10) (v := .ref a_P_ys) B inlX4 hP 0 rfl rfl 2 rfl mfl_X4_15 rfl rfl dX4_isTaken_21 ?_
      refine lv_iload_n hx hb dX4_isTaken_24 rfl (lv_at hl 0 rfl) ?_
      refine uIald (i := (nI j1)) (j := j1) B hP 2 rfl (nI_in (by omega) (by omega)) (nI_clamp (by omega)) dX4_isTaken_25 ?_
      obtain ⟨a7, ha7, ea7⟩ := uRnat r_P_ys j1 (by decide)
      simp only [Int32.reduceToInt] at ha7
      refine lv_fixi (y := (nI a7)) ea7 ?_
      refine lv_iload_n hx hb dX4_isTaken_26 rfl (lv_at hl 3 rfl) ?_
      refine lv_pc (q := 27) rfl ?_
      refine lv_icmp_ne (tgt := 32) hx hb dX4_isTaken_27 (by decide) (fun c8 => ?_) (fun c8 => ?_)
      · refine lv_iinc (v := nI (j1 + 1)) (lv' := [(3, .int (nI (j1 + 1))), (0, .ref a_P), (1, .int x0), (2, .int x1)]) hx hb dX4_isTaken_32 hl (k := 0) rfl (nI_1 _) (by decide) rfl (fun ls hl => ?_)
        refine lv_goto (tgt := 2) hx hb dX4_isTaken_35 (by decide) ?_
        refine lv_pc (q := 2) rfl ?_
        refine W.widen (k := 0) (n := 0) (Nat.le_of_ble_eq_true rfl) (Nat.le_of_ble_eq_true rfl) ?_
        exact ih2 (j1 + 1) (by omega) (by omega) _ _ _ (uSub hP [0, 1, 2] rfl) (hD.sub [0, 1, 2] rfl rfl) hS (lv_sub hl [0, 1, 2, 3] rfl)
      refine lv_iconst (v := 1) hx hb dX4_isTaken_30 (by decide) ?_
      exact uRz () B rfl (Or.inr rfl) (uSub hP [0, 1, 2] rfl) (hD.sub [0, 1, 2] rfl rfl) hS dX4_isTaken_31
  refine lv_pc (q := 2) rfl ?_
  refine W.widen (k := 0) (n := 0) (Nat.le_of_ble_eq_true rfl) (Nat.le_of_ble_eq_true rfl) ?_
  exact L3 ((v_P_size - 0) + 1) 0 (by omega) (Nat.lt_succ_self _) _ _ _ hP hD hS hl
def qwX4_eyeOf (a_P : Nat) (v_P_size : Nat) (a_T : Nat) (v_T_width : Nat) (v_T_height : Nat) (v_T_bending : Int32) (a_T_heights : Nat) (f_T_heights : Nat → Int32) (a_P_cells : Nat) (f_P_cells : Nat → Int32) (a_P_lows : Nat) (f_P_lows : Nat → Int32) (a_P_highs : Nat) (f_P_highs : Nat → Int32) (a_P_xs : Nat) (a_P_ys : Nat) (a_P_states : Nat) (a_P_men : Nat) (a_P_stores : Nat) (a_T_woods : Nat) (a_T_treesLow : Nat) (a_T_treesHigh : Nat) (a_T_worst : Nat) (a_T_best : Nat) (x0 : Nat) (x1 : Int32) : Int32 → (Unit) → Prop := (fun (r : Int32) (u : Unit) => True)
def vwX4_eyeOf (K : Nat → ClassId) (a_P : Nat) (v_P_size : Nat) (a_T : Nat) (v_T_width : Nat) (v_T_height : Nat) (v_T_bending : Int32) (a_T_heights : Nat) (f_T_heights : Nat → Int32) (a_P_cells : Nat) (f_P_cells : Nat → Int32) (a_P_lows : Nat) (f_P_lows : Nat → Int32) (a_P_highs : Nat) (f_P_highs : Nat → Int32) (a_P_xs : Nat) (a_P_ys : Nat) (a_P_states : Nat) (a_P_men : Nat) (a_P_stores : Nat) (a_T_woods : Nat) (a_T_treesLow : Nat) (a_T_treesHigh : Nat) (a_T_worst : Nat) (a_T_best : Nat) (x0 : Nat) (x1 : Int32) : (Unit) → va_W := (fun (u : Unit) => [(a_P, .inr (4, [.ref a_T, .ref a_P_xs, .ref a_P_ys, .ref a_P_cells, .ref a_P_lows, .ref a_P_highs, .ref a_P_states, .ref a_P_men, .ref a_P_stores, .int (nI v_P_size)])), (a_T, .inr (9, [.ref a_T_heights, .ref a_T_woods, .ref a_T_treesLow, .ref a_T_treesHigh, .ref a_T_worst, .ref a_T_best, .int (nI v_T_width), .int (nI v_T_height), .int v_T_bending])), (a_T_heights, .inl (K 0, 256, .inl f_T_heights)), (a_P_cells, .inl (K 0, 12, .inl f_P_cells)), (a_P_lows, .inl (K 0, 12, .inl f_P_lows)), (a_P_highs, .inl (K 0, 12, .inl f_P_highs))])
set_option maxHeartbeats 4000000 in
set_option maxRecDepth 100000 in
theorem wX4_eyeOf (l : Launch) (D : va_G) (K : Nat → ClassId) (sz : Nat) (a_P : Nat) (v_P_size : Nat) (a_T : Nat) (v_T_width : Nat) (v_T_height : Nat) (v_T_bending : Int32) (a_T_heights : Nat) (f_T_heights : Nat → Int32) (a_P_cells : Nat) (f_P_cells : Nat → Int32) (a_P_lows : Nat) (f_P_lows : Nat → Int32) (a_P_highs : Nat) (f_P_highs : Nat → Int32) (a_P_xs : Nat) (a_P_ys : Nat) (a_P_states : Nat) (a_P_men : Nat) (a_P_stores : Nat) (a_T_woods : Nat) (a_T_treesLow : Nat) (a_T_treesHigh : Nat) (a_T_worst : Nat) (a_T_best : Nat) (x0 : Nat) (x1 : Int32) (hv_P_size : v_P_size ≤ 12) (hv_T_width : v_T_width ≤ 16) (gv_T_width : 4 ≤ v_T_width) (hv_T_height : v_T_height ≤ 16) (gv_T_height : 4 ≤ v_T_height) (r_P_cells : uRg f_P_cells 0 255) (hx0 : x0 < v_P_size) (hx1 : x1 = 0 ∨ x1 = 1) : uMi l yX4_eyeOf cX4_eyeOf 3 (some .int) { frames := 0, cells := 0, slots := 0, locals := 0 } [.ref a_P, .int (nI x0), .int x1] D K [(a_P, .inr (4, [.ref a_T, .ref a_P_xs, .ref a_P_ys, .ref a_P_cells, .ref a_P_lows, .ref a_P_highs, .ref a_P_states, .ref a_P_men, .ref a_P_stores, .int (nI v_P_size)])), (a_T, .inr (9, [.ref a_T_heights, .ref a_T_woods, .ref a_T_treesLow, .ref a_T_treesHigh, .ref a_T_worst, .ref a_T_best, .int (nI v_T_width), .int (nI v_T_height), .int v_T_bending])), (a_T_heights, .inl (K 0, 256, .inl f_T_heights)), (a_P_cells, .inl (K 0, 12, .inl f_P_cells)), (a_P_lows, .inl (K 0, 12, .inl f_P_lows)), (a_P_highs, .inl (K 0, 12, .inl f_P_highs))] sz (qwX4_eyeOf a_P v_P_size a_T v_T_width v_T_height v_T_bending a_T_heights f_T_heights a_P_cells f_P_cells a_P_lows f_P_lows a_P_highs f_P_highs a_P_xs a_P_ys a_P_states a_P_men a_P_stores a_T_woods a_T_treesLow a_T_treesHigh a_T_worst a_T_best x0 x1) (vwX4_eyeOf K a_P v_P_size a_T v_T_width v_T_height v_T_bending a_T_heights f_T_heights a_P_cells f_P_cells a_P_lows f_P_lows a_P_highs f_P_highs a_P_xs a_P_ys a_P_states a_P_men a_P_stores a_T_woods a_T_treesLow a_T_treesHigh a_T_worst a_T_best x0 x1) := by
  refine uMet (Qc := uQi D (qwX4_eyeOf a_P v_P_size a_T v_T_width v_T_height v_T_bending a_T_heights f_T_heights a_P_cells f_P_cells a_P_lows f_P_lows a_P_highs f_P_highs a_P_xs a_P_ys a_P_states a_P_men a_P_stores a_T_woods a_T_treesLow a_T_treesHigh a_T_worst a_T_best x0 x1) (vwX4_eyeOf K a_P v_P_size a_T v_T_width v_T_height v_T_bending a_T_heights f_T_heights a_P_cells f_P_cells a_P_lows f_P_lows a_P_highs f_P_highs a_P_xs a_P_ys a_P_states a_P_men a_P_stores a_T_woods a_T_treesLow a_T_treesHigh a_T_worst a_T_best x0 x1)) (ret := (some .int)) (by decide) (Nat.le_of_ble_eq_true rfl) ?_
  intro p e s m below meth c A ls hAe hsz B hP hD hS hl
  have hx := B.1
  have hb := B.2.1
  have hl : lv_has ls 3 [(0, .ref a_P), (1, .int (nI x0)), (2, .int x1)] := hl
  refine lv_aload_n hx hb dX4_eyeOf_0 rfl (lv_at hl 0 rfl) ?_
  refine uGet (ci := 4) (C := RX4) (T := TX4) (N := 10) (v := .ref a_T) B inlX4 hP 0 rfl rfl 0 rfl mfl_X4_40 rfl rfl dX4_eyeOf_1 ?_
  refine uGet (ci := 9) (C := RX9) (T := TX9) (N := 9) (v := .ref a_T_heights) B inlX9 hP 1 rfl rfl 0 rfl mfl_X4_63 rfl rfl dX4_eyeOf_4 ?_
  refine lv_aload_n hx hb dX4_eyeOf_7 rfl (lv_at hl 0 rfl) ?_
  refine uGet (ci := 4) (C := RX4) (T := TX4) (N := 10) (v := .ref a_P_cells) B inlX4 hP 0 rfl rfl 3 rfl mfl_X4_18 rfl rfl dX4_eyeOf_8 ?_
  refine lv_pc (q := 11) rfl ?_
  refine lv_iload_n hx hb dX4_eyeOf_11 rfl (lv_at hl 1 rfl) ?_
  refine uIald (i := (nI x0)) (j := x0) B hP 3 rfl (nI_in (by omega) (by omega)) (nI_clamp (by omega)) dX4_eyeOf_12 ?_
  obtain ⟨a1, ha1, ea1⟩ := uRnat r_P_cells x0 (by decide)
  simp only [Int32.reduceToInt] at ha1
  refine lv_fixi (y := (nI a1)) ea1 ?_
  refine uIald (i := (nI a1)) (j := a1) B hP 2 rfl (nI_in (by omega) (by omega)) (nI_clamp (by omega)) dX4_eyeOf_13 ?_
  refine lv_iload_n hx hb dX4_eyeOf_14 rfl (lv_at hl 2 rfl) ?_
  refine lv_if_eq (tgt := 27) hx hb dX4_eyeOf_15 (by decide) (fun c2 => ?_) (fun c2 => ?_)
  · refine lv_aload_n hx hb dX4_eyeOf_27 rfl (lv_at hl 0 rfl) ?_
    refine lv_pc (q := 28) rfl ?_
    refine uGet (ci := 4) (C := RX4) (T := TX4) (N := 10) (v := .ref a_P_highs) B inlX4 hP 0 rfl rfl 5 rfl mfl_X4_24 rfl rfl dX4_eyeOf_28 ?_
    refine lv_iload_n hx hb dX4_eyeOf_31 rfl (lv_at hl 1 rfl) ?_
    refine uIald (i := (nI x0)) (j := x0) B hP 5 rfl (nI_in (by omega) (by omega)) (nI_clamp (by omega)) dX4_eyeOf_32 ?_
    refine lv_iadd hx hb dX4_eyeOf_33 ?_
    exact uRi () B trivial (uSub hP [0, 1, 2, 3, 4, 5] rfl) (hD.sub [0, 1, 2, 3, 4, 5] rfl rfl) hS dX4_eyeOf_34
  refine lv_aload_n hx hb dX4_eyeOf_18 rfl (lv_at hl 0 rfl) ?_
  refine lv_pc (q := 19) rfl ?_
  refine uGet (ci := 4) (C := RX4) (T := TX4) (N := 10) (v := .ref a_P_lows) B inlX4 hP 0 rfl rfl 4 rfl mfl_X4_21 rfl rfl dX4_eyeOf_19 ?_
  refine lv_iload_n hx hb dX4_eyeOf_22 rfl (lv_at hl 1 rfl) ?_
  refine uIald (i := (nI x0)) (j := x0) B hP 4 rfl (nI_in (by omega) (by omega)) (nI_clamp (by omega)) dX4_eyeOf_23 ?_
  refine lv_goto (tgt := 33) hx hb dX4_eyeOf_24 (by decide) ?_
  refine lv_iadd hx hb dX4_eyeOf_33 ?_
  exact uRi () B trivial (uSub hP [0, 1, 2, 3, 4, 5] rfl) (hD.sub [0, 1, 2, 3, 4, 5] rfl rfl) hS dX4_eyeOf_34
def qwX4_trait (a_P : Nat) (v_P_size : Nat) (a_P_xs : Nat) (f_P_xs : Nat → Int32) (a_P_ys : Nat) (f_P_ys : Nat → Int32) (a_P_lows : Nat) (f_P_lows : Nat → Int32) (a_P_highs : Nat) (f_P_highs : Nat → Int32) (a_P_states : Nat) (f_P_states : Nat → Int32) (a_P_men : Nat) (f_P_men : Nat → Int32) (a_P_stores : Nat) (f_P_stores : Nat → Int32) (a_T : Nat) (a_P_cells : Nat) (x0 : Nat) (x1 : Int32) : Int32 → (Unit) → Prop := (fun (r : Int32) (u : Unit) => True)
def vwX4_trait (K : Nat → ClassId) (a_P : Nat) (v_P_size : Nat) (a_P_xs : Nat) (f_P_xs : Nat → Int32) (a_P_ys : Nat) (f_P_ys : Nat → Int32) (a_P_lows : Nat) (f_P_lows : Nat → Int32) (a_P_highs : Nat) (f_P_highs : Nat → Int32) (a_P_states : Nat) (f_P_states : Nat → Int32) (a_P_men : Nat) (f_P_men : Nat → Int32) (a_P_stores : Nat) (f_P_stores : Nat → Int32) (a_T : Nat) (a_P_cells : Nat) (x0 : Nat) (x1 : Int32) : (Unit) → va_W := (fun (u : Unit) => [(a_P, .inr (4, [.ref a_T, .ref a_P_xs, .ref a_P_ys, .ref a_P_cells, .ref a_P_lows, .ref a_P_highs, .ref a_P_states, .ref a_P_men, .ref a_P_stores, .int (nI v_P_size)])), (a_P_xs, .inl (K 0, 12, .inl f_P_xs)), (a_P_ys, .inl (K 0, 12, .inl f_P_ys)), (a_P_lows, .inl (K 0, 12, .inl f_P_lows)), (a_P_highs, .inl (K 0, 12, .inl f_P_highs)), (a_P_states, .inl (K 0, 12, .inl f_P_states)), (a_P_men, .inl (K 0, 12, .inl f_P_men)), (a_P_stores, .inl (K 0, 12, .inl f_P_stores))])
set_option maxHeartbeats 4000000 in
set_option maxRecDepth 100000 in
theorem wX4_trait (l : Launch) (D : va_G) (K : Nat → ClassId) (sz : Nat) (a_P : Nat) (v_P_size : Nat) (a_P_xs : Nat) (f_P_xs : Nat → Int32) (a_P_ys : Nat) (f_P_ys : Nat → Int32) (a_P_lows : Nat) (f_P_lows : Nat → Int32) (a_P_highs : Nat) (f_P_highs : Nat → Int32) (a_P_states : Nat) (f_P_states : Nat → Int32) (a_P_men : Nat) (f_P_men : Nat → Int32) (a_P_stores : Nat) (f_P_stores : Nat → Int32) (a_T : Nat) (a_P_cells : Nat) (x0 : Nat) (x1 : Int32) (hv_P_size : v_P_size ≤ 12) (r_P_xs : uRg f_P_xs 0 15) (r_P_ys : uRg f_P_ys 0 15) (hx0 : x0 < v_P_size) : uMi l yX4_trait cX4_trait 3 (some .int) { frames := 0, cells := 0, slots := 0, locals := 0 } [.ref a_P, .int (nI x0), .int x1] D K [(a_P, .inr (4, [.ref a_T, .ref a_P_xs, .ref a_P_ys, .ref a_P_cells, .ref a_P_lows, .ref a_P_highs, .ref a_P_states, .ref a_P_men, .ref a_P_stores, .int (nI v_P_size)])), (a_P_xs, .inl (K 0, 12, .inl f_P_xs)), (a_P_ys, .inl (K 0, 12, .inl f_P_ys)), (a_P_lows, .inl (K 0, 12, .inl f_P_lows)), (a_P_highs, .inl (K 0, 12, .inl f_P_highs)), (a_P_states, .inl (K 0, 12, .inl f_P_states)), (a_P_men, .inl (K 0, 12, .inl f_P_men)), (a_P_stores, .inl (K 0, 12, .inl f_P_stores))] sz (qwX4_trait a_P v_P_size a_P_xs f_P_xs a_P_ys f_P_ys a_P_lows f_P_lows a_P_highs f_P_highs a_P_states f_P_states a_P_men f_P_men a_P_stores f_P_stores a_T a_P_cells x0 x1) (vwX4_trait K a_P v_P_size a_P_xs f_P_xs a_P_ys f_P_ys a_P_lows f_P_lows a_P_highs f_P_highs a_P_states f_P_states a_P_men f_P_men a_P_stores f_P_stores a_T a_P_cells x0 x1) := by
  refine uMet (Qc := uQi D (qwX4_trait a_P v_P_size a_P_xs f_P_xs a_P_ys f_P_ys a_P_lows f_P_lows a_P_highs f_P_highs a_P_states f_P_states a_P_men f_P_men a_P_stores f_P_stores a_T a_P_cells x0 x1) (vwX4_trait K a_P v_P_size a_P_xs f_P_xs a_P_ys f_P_ys a_P_lows f_P_lows a_P_highs f_P_highs a_P_states f_P_states a_P_men f_P_men a_P_stores f_P_stores a_T a_P_cells x0 x1)) (ret := (some .int)) (by decide) (Nat.le_of_ble_eq_true rfl) ?_
  intro p e s m below meth c A ls hAe hsz B hP hD hS hl
  have hx := B.1
  have hb := B.2.1
  have hl : lv_has ls 3 [(0, .ref a_P), (1, .int (nI x0)), (2, .int x1)] := hl
  refine lv_iload_n hx hb dX4_trait_0 rfl (lv_at hl 2 rfl) ?_
  by_cases c1 : x1 = 0
  · refine lv_tableIn (off := 43) (tgt := 44) hx hb dX4_trait_1 (by rw [c1]; decide) (by rw [c1]; decide) (by rw [c1]; rfl) (by decide) ?_
    refine lv_aload_n hx hb dX4_trait_44 rfl (lv_at hl 0 rfl) ?_
    refine uGet (ci := 4) (C := RX4) (T := TX4) (N := 10) (v := .ref a_P_xs) B inlX4 hP 0 rfl rfl 1 rfl mfl_X4_9 rfl rfl dX4_trait_45 ?_
    refine lv_iload_n hx hb dX4_trait_48 rfl (lv_at hl 1 rfl) ?_
    refine lv_pc (q := 49) rfl ?_
    refine uIald (i := (nI x0)) (j := x0) B hP 1 rfl (nI_in (by omega) (by omega)) (nI_clamp (by omega)) dX4_trait_49 ?_
    obtain ⟨a2, ha2, ea2⟩ := uRnat r_P_xs x0 (by decide)
    simp only [Int32.reduceToInt] at ha2
    refine lv_fixi (y := (nI a2)) ea2 ?_
    exact uRi () B trivial (uSub hP [0, 1, 2, 3, 4, 5, 6, 7] rfl) (hD.sub [0, 1, 2, 3, 4, 5, 6, 7] rfl rfl) hS dX4_trait_50
  by_cases c3 : x1 = 1
  · refine lv_tableIn (off := 50) (tgt := 51) hx hb dX4_trait_1 (by rw [c3]; decide) (by rw [c3]; decide) (by rw [c3]; rfl) (by decide) ?_
    refine lv_aload_n hx hb dX4_trait_51 rfl (lv_at hl 0 rfl) ?_
    refine uGet (ci := 4) (C := RX4) (T := TX4) (N := 10) (v := .ref a_P_ys) B inlX4 hP 0 rfl rfl 2 rfl mfl_X4_15 rfl rfl dX4_trait_52 ?_
    refine lv_iload_n hx hb dX4_trait_55 rfl (lv_at hl 1 rfl) ?_
    refine lv_pc (q := 56) rfl ?_
    refine uIald (i := (nI x0)) (j := x0) B hP 2 rfl (nI_in (by omega) (by omega)) (nI_clamp (by omega)) dX4_trait_56 ?_
    obtain ⟨a4, ha4, ea4⟩ := uRnat r_P_ys x0 (by decide)
    simp only [Int32.reduceToInt] at ha4
    refine lv_fixi (y := (nI a4)) ea4 ?_
    exact uRi () B trivial (uSub hP [0, 1, 2, 3, 4, 5, 6, 7] rfl) (hD.sub [0, 1, 2, 3, 4, 5, 6, 7] rfl rfl) hS dX4_trait_57
  by_cases c5 : x1 = 2
  · refine lv_tableIn (off := 57) (tgt := 58) hx hb dX4_trait_1 (by rw [c5]; decide) (by rw [c5]; decide) (by rw [c5]; rfl) (by decide) ?_
    refine lv_aload_n hx hb dX4_trait_58 rfl (lv_at hl 0 rfl) ?_
    refine uGet (ci := 4) (C := RX4) (T := TX4) (N := 10) (v := .ref a_P_states) B inlX4 hP 0 rfl rfl 6 rfl mfl_X4_27 rfl rfl dX4_trait_59 ?_
    refine lv_iload_n hx hb dX4_trait_62 rfl (lv_at hl 1 rfl) ?_
    refine lv_pc (q := 63) rfl ?_
    refine uIald (i := (nI x0)) (j := x0) B hP 5 rfl (nI_in (by omega) (by omega)) (nI_clamp (by omega)) dX4_trait_63 ?_
    exact uRi () B trivial (uSub hP [0, 1, 2, 3, 4, 5, 6, 7] rfl) (hD.sub [0, 1, 2, 3, 4, 5, 6, 7] rfl rfl) hS dX4_trait_64
  by_cases c6 : x1 = 3
  · refine lv_tableIn (off := 64) (tgt := 65) hx hb dX4_trait_1 (by rw [c6]; decide) (by rw [c6]; decide) (by rw [c6]; rfl) (by decide) ?_
    refine lv_aload_n hx hb dX4_trait_65 rfl (lv_at hl 0 rfl) ?_
    refine uGet (ci := 4) (C := RX4) (T := TX4) (N := 10) (v := .ref a_P_men) B inlX4 hP 0 rfl rfl 7 rfl mfl_X4_30 rfl rfl dX4_trait_66 ?_
    refine lv_iload_n hx hb dX4_trait_69 rfl (lv_at hl 1 rfl) ?_
    refine lv_pc (q := 70) rfl ?_
    refine uIald (i := (nI x0)) (j := x0) B hP 6 rfl (nI_in (by omega) (by omega)) (nI_clamp (by omega)) dX4_trait_70 ?_
    exact uRi () B trivial (uSub hP [0, 1, 2, 3, 4, 5, 6, 7] rfl) (hD.sub [0, 1, 2, 3, 4, 5, 6, 7] rfl rfl) hS dX4_trait_71
  by_cases c7 : x1 = 4
  · refine lv_tableIn (off := 71) (tgt := 72) hx hb dX4_trait_1 (by rw [c7]; decide) (by rw [c7]; decide) (by rw [c7]; rfl) (by decide) ?_
    refine lv_aload_n hx hb dX4_trait_72 rfl (lv_at hl 0 rfl) ?_
    refine uGet (ci := 4) (C := RX4) (T := TX4) (N := 10) (v := .ref a_P_stores) B inlX4 hP 0 rfl rfl 8 rfl mfl_X4_33 rfl rfl dX4_trait_73 ?_
    refine lv_iload_n hx hb dX4_trait_76 rfl (lv_at hl 1 rfl) ?_
    refine lv_pc (q := 77) rfl ?_
    refine uIald (i := (nI x0)) (j := x0) B hP 7 rfl (nI_in (by omega) (by omega)) (nI_clamp (by omega)) dX4_trait_77 ?_
    exact uRi () B trivial (uSub hP [0, 1, 2, 3, 4, 5, 6, 7] rfl) (hD.sub [0, 1, 2, 3, 4, 5, 6, 7] rfl rfl) hS dX4_trait_78
  by_cases c8 : x1 = 5
  · refine lv_tableIn (off := 78) (tgt := 79) hx hb dX4_trait_1 (by rw [c8]; decide) (by rw [c8]; decide) (by rw [c8]; rfl) (by decide) ?_
    refine lv_aload_n hx hb dX4_trait_79 rfl (lv_at hl 0 rfl) ?_
    refine uGet (ci := 4) (C := RX4) (T := TX4) (N := 10) (v := .ref a_P_lows) B inlX4 hP 0 rfl rfl 4 rfl mfl_X4_21 rfl rfl dX4_trait_80 ?_
    refine lv_iload_n hx hb dX4_trait_83 rfl (lv_at hl 1 rfl) ?_
    refine lv_pc (q := 84) rfl ?_
    refine uIald (i := (nI x0)) (j := x0) B hP 3 rfl (nI_in (by omega) (by omega)) (nI_clamp (by omega)) dX4_trait_84 ?_
    exact uRi () B trivial (uSub hP [0, 1, 2, 3, 4, 5, 6, 7] rfl) (hD.sub [0, 1, 2, 3, 4, 5, 6, 7] rfl rfl) hS dX4_trait_85
  by_cases c9 : x1 = 6
  · refine lv_tableIn (off := 85) (tgt := 86) hx hb dX4_trait_1 (by rw [c9]; decide) (by rw [c9]; decide) (by rw [c9]; rfl) (by decide) ?_
    refine lv_aload_n hx hb dX4_trait_86 rfl (lv_at hl 0 rfl) ?_
    refine uGet (ci := 4) (C := RX4) (T := TX4) (N := 10) (v := .ref a_P_highs) B inlX4 hP 0 rfl rfl 5 rfl mfl_X4_24 rfl rfl dX4_trait_87 ?_
    refine lv_iload_n hx hb dX4_trait_90 rfl (lv_at hl 1 rfl) ?_
    refine lv_pc (q := 91) rfl ?_
    refine uIald (i := (nI x0)) (j := x0) B hP 4 rfl (nI_in (by omega) (by omega)) (nI_clamp (by omega)) dX4_trait_91 ?_
    exact uRi () B trivial (uSub hP [0, 1, 2, 3, 4, 5, 6, 7] rfl) (hD.sub [0, 1, 2, 3, 4, 5, 6, 7] rfl rfl) hS dX4_trait_92
  refine lv_tableOut (tgt := 93) hx hb dX4_trait_1 (by simp only [fa_eq, Int32.reduceToInt] at c1 c3 c5 c6 c7 c8 c9; omega) (by decide) ?_
  refine lv_iconst (v := (-1)) hx hb dX4_trait_93 (by decide) ?_
  exact uRi () B trivial (uSub hP [0, 1, 2, 3, 4, 5, 6, 7] rfl) (hD.sub [0, 1, 2, 3, 4, 5, 6, 7] rfl rfl) hS dX4_trait_94
def qwX4_add (a_P : Nat) (v_P_size : Nat) (a_T : Nat) (v_T_width : Nat) (v_T_height : Nat) (v_T_bending : Int32) (a_P_xs : Nat) (f_P_xs : Nat → Int32) (a_P_ys : Nat) (f_P_ys : Nat → Int32) (a_P_cells : Nat) (f_P_cells : Nat → Int32) (a_P_lows : Nat) (f_P_lows : Nat → Int32) (a_P_highs : Nat) (f_P_highs : Nat → Int32) (a_P_states : Nat) (f_P_states : Nat → Int32) (a_P_men : Nat) (f_P_men : Nat → Int32) (a_P_stores : Nat) (f_P_stores : Nat → Int32) (a_T_heights : Nat) (a_T_woods : Nat) (a_T_treesLow : Nat) (a_T_treesHigh : Nat) (a_T_worst : Nat) (a_T_best : Nat) (x0 : Int32) (x1 : Int32) (x2 : Int32) (x3 : Int32) (x4 : Int32) (x5 : Int32) : Int32 → (Nat × (Nat → Int32) × (Nat → Int32) × (Nat → Int32) × (Nat → Int32) × (Nat → Int32) × (Nat → Int32) × (Nat → Int32) × (Nat → Int32)) → Prop := (fun (r : Int32) (u : Nat × (Nat → Int32) × (Nat → Int32) × (Nat → Int32) × (Nat → Int32) × (Nat → Int32) × (Nat → Int32) × (Nat → Int32) × (Nat → Int32)) => (u.1 ≤ 12) ∧ (uRg u.2.1 0 15) ∧ (uRg u.2.2.1 0 15) ∧ (uRg u.2.2.2.1 0 255))
def vwX4_add (K : Nat → ClassId) (a_P : Nat) (v_P_size : Nat) (a_T : Nat) (v_T_width : Nat) (v_T_height : Nat) (v_T_bending : Int32) (a_P_xs : Nat) (f_P_xs : Nat → Int32) (a_P_ys : Nat) (f_P_ys : Nat → Int32) (a_P_cells : Nat) (f_P_cells : Nat → Int32) (a_P_lows : Nat) (f_P_lows : Nat → Int32) (a_P_highs : Nat) (f_P_highs : Nat → Int32) (a_P_states : Nat) (f_P_states : Nat → Int32) (a_P_men : Nat) (f_P_men : Nat → Int32) (a_P_stores : Nat) (f_P_stores : Nat → Int32) (a_T_heights : Nat) (a_T_woods : Nat) (a_T_treesLow : Nat) (a_T_treesHigh : Nat) (a_T_worst : Nat) (a_T_best : Nat) (x0 : Int32) (x1 : Int32) (x2 : Int32) (x3 : Int32) (x4 : Int32) (x5 : Int32) : (Nat × (Nat → Int32) × (Nat → Int32) × (Nat → Int32) × (Nat → Int32) × (Nat → Int32) × (Nat → Int32) × (Nat → Int32) × (Nat → Int32)) → va_W := (fun (u : Nat × (Nat → Int32) × (Nat → Int32) × (Nat → Int32) × (Nat → Int32) × (Nat → Int32) × (Nat → Int32) × (Nat → Int32) × (Nat → Int32)) => [(a_P, .inr (4, [.ref a_T, .ref a_P_xs, .ref a_P_ys, .ref a_P_cells, .ref a_P_lows, .ref a_P_highs, .ref a_P_states, .ref a_P_men, .ref a_P_stores, .int (nI ((u.1)))])), (a_T, .inr (9, [.ref a_T_heights, .ref a_T_woods, .ref a_T_treesLow, .ref a_T_treesHigh, .ref a_T_worst, .ref a_T_best, .int (nI v_T_width), .int (nI v_T_height), .int v_T_bending])), (a_P_xs, .inl (K 0, 12, .inl (u.2.1))), (a_P_ys, .inl (K 0, 12, .inl (u.2.2.1))), (a_P_cells, .inl (K 0, 12, .inl (u.2.2.2.1))), (a_P_lows, .inl (K 0, 12, .inl (u.2.2.2.2.1))), (a_P_highs, .inl (K 0, 12, .inl (u.2.2.2.2.2.1))), (a_P_states, .inl (K 0, 12, .inl (u.2.2.2.2.2.2.1))), (a_P_men, .inl (K 0, 12, .inl (u.2.2.2.2.2.2.2.1))), (a_P_stores, .inl (K 0, 12, .inl (u.2.2.2.2.2.2.2.2)))])
set_option maxHeartbeats 4000000 in
set_option maxRecDepth 100000 in
theorem wX4_add (l : Launch) (D : va_G) (K : Nat → ClassId) (sz : Nat) (a_P : Nat) (v_P_size : Nat) (a_T : Nat) (v_T_width : Nat) (v_T_height : Nat) (v_T_bending : Int32) (a_P_xs : Nat) (f_P_xs : Nat → Int32) (a_P_ys : Nat) (f_P_ys : Nat → Int32) (a_P_cells : Nat) (f_P_cells : Nat → Int32) (a_P_lows : Nat) (f_P_lows : Nat → Int32) (a_P_highs : Nat) (f_P_highs : Nat → Int32) (a_P_states : Nat) (f_P_states : Nat → Int32) (a_P_men : Nat) (f_P_men : Nat → Int32) (a_P_stores : Nat) (f_P_stores : Nat → Int32) (a_T_heights : Nat) (a_T_woods : Nat) (a_T_treesLow : Nat) (a_T_treesHigh : Nat) (a_T_worst : Nat) (a_T_best : Nat) (x0 : Int32) (x1 : Int32) (x2 : Int32) (x3 : Int32) (x4 : Int32) (x5 : Int32) (hv_P_size : v_P_size ≤ 12) (hv_T_width : v_T_width ≤ 16) (gv_T_width : 4 ≤ v_T_width) (hv_T_height : v_T_height ≤ 16) (gv_T_height : 4 ≤ v_T_height) (r_P_xs : uRg f_P_xs 0 15) (r_P_ys : uRg f_P_ys 0 15) (r_P_cells : uRg f_P_cells 0 255) (hx4 : x4 = 0 ∨ x4 = 1) : uMi l yX4_add cX4_add 7 (some .int) { frames := 1, cells := 0, slots := 0, locals := 23 } [.ref a_P, .int x0, .int x1, .int x2, .int x3, .int x4, .int x5] D K [(a_P, .inr (4, [.ref a_T, .ref a_P_xs, .ref a_P_ys, .ref a_P_cells, .ref a_P_lows, .ref a_P_highs, .ref a_P_states, .ref a_P_men, .ref a_P_stores, .int (nI v_P_size)])), (a_T, .inr (9, [.ref a_T_heights, .ref a_T_woods, .ref a_T_treesLow, .ref a_T_treesHigh, .ref a_T_worst, .ref a_T_best, .int (nI v_T_width), .int (nI v_T_height), .int v_T_bending])), (a_P_xs, .inl (K 0, 12, .inl f_P_xs)), (a_P_ys, .inl (K 0, 12, .inl f_P_ys)), (a_P_cells, .inl (K 0, 12, .inl f_P_cells)), (a_P_lows, .inl (K 0, 12, .inl f_P_lows)), (a_P_highs, .inl (K 0, 12, .inl f_P_highs)), (a_P_states, .inl (K 0, 12, .inl f_P_states)), (a_P_men, .inl (K 0, 12, .inl f_P_men)), (a_P_stores, .inl (K 0, 12, .inl f_P_stores))] sz (qwX4_add a_P v_P_size a_T v_T_width v_T_height v_T_bending a_P_xs f_P_xs a_P_ys f_P_ys a_P_cells f_P_cells a_P_lows f_P_lows a_P_highs f_P_highs a_P_states f_P_states a_P_men f_P_men a_P_stores f_P_stores a_T_heights a_T_woods a_T_treesLow a_T_treesHigh a_T_worst a_T_best x0 x1 x2 x3 x4 x5) (vwX4_add K a_P v_P_size a_T v_T_width v_T_height v_T_bending a_P_xs f_P_xs a_P_ys f_P_ys a_P_cells f_P_cells a_P_lows f_P_lows a_P_highs f_P_highs a_P_states f_P_states a_P_men f_P_men a_P_stores f_P_stores a_T_heights a_T_woods a_T_treesLow a_T_treesHigh a_T_worst a_T_best x0 x1 x2 x3 x4 x5) := by
  refine uMet (Qc := uQi D (qwX4_add a_P v_P_size a_T v_T_width v_T_height v_T_bending a_P_xs f_P_xs a_P_ys f_P_ys a_P_cells f_P_cells a_P_lows f_P_lows a_P_highs f_P_highs a_P_states f_P_states a_P_men f_P_men a_P_stores f_P_stores a_T_heights a_T_woods a_T_treesLow a_T_treesHigh a_T_worst a_T_best x0 x1 x2 x3 x4 x5) (vwX4_add K a_P v_P_size a_T v_T_width v_T_height v_T_bending a_P_xs f_P_xs a_P_ys f_P_ys a_P_cells f_P_cells a_P_lows f_P_lows a_P_highs f_P_highs a_P_states f_P_states a_P_men f_P_men a_P_stores f_P_stores a_T_heights a_T_woods a_T_treesLow a_T_treesHigh a_T_worst a_T_best x0 x1 x2 x3 x4 x5)) (ret := (some .int)) (by decide) (Nat.le_of_ble_eq_true rfl) ?_
  intro p e s m below meth c A ls hAe hsz B hP hD hS hl
  have hx := B.1
  have hb := B.2.1
  have hl : lv_has ls 7 [(0, .ref a_P), (1, .int x0), (2, .int x1), (3, .int x2), (4, .int x3), (5, .int x4), (6, .int x5)] := hl
  refine lv_aload_n hx hb dX4_add_0 rfl (lv_at hl 0 rfl) ?_
  refine uGet (ci := 4) (C := RX4) (T := TX4) (N := 10) (v := .ref a_T) B inlX4 hP 0 rfl rfl 0 rfl mfl_X4_40 rfl rfl dX4_add_1 ?_
  refine lv_iload_n hx hb dX4_add_4 rfl (lv_at hl 1 rfl) ?_
  refine lv_iload_n hx hb dX4_add_5 rfl (lv_at hl 2 rfl) ?_
  refine uVi (As := [.int x0, .int x1]) (rest := []) (wr := [(a_P, .inr (4, [.ref a_T, .ref a_P_xs, .ref a_P_ys, .ref a_P_cells, .ref a_P_lows, .ref a_P_highs, .ref a_P_states, .ref a_P_men, .ref a_P_stores, .int (nI v_P_size)])), (a_P_xs, .inl (K 0, 12, .inl f_P_xs)), (a_P_ys, .inl (K 0, 12, .inl f_P_ys)), (a_P_cells, .inl (K 0, 12, .inl f_P_cells)), (a_P_lows, .inl (K 0, 12, .inl f_P_lows)), (a_P_highs, .inl (K 0, 12, .inl f_P_highs)), (a_P_states, .inl (K 0, 12, .inl f_P_states)), (a_P_men, .inl (K 0, 12, .inl f_P_men)), (a_P_stores, .inl (K 0, 12, .inl f_P_stores))]) [(a_T, .inr (9, [.ref a_T_heights, .ref a_T_woods, .ref a_T_treesLow, .ref a_T_treesHigh, .ref a_T_worst, .ref a_T_best, .int (nI v_T_width), .int (nI v_T_height), .int v_T_bending]))] B hl.1 hP hD hS [1] [0, 2, 3, 4, 5, 6, 7, 8, 9] rfl rfl rfl (wX9_has l D K _ a_T v_T_width v_T_height v_T_bending a_T_heights a_T_woods a_T_treesLow a_T_treesHigh a_T_worst a_T_best x0 x1 (by omega) (by omega) (by omega) (by omega)) wd_X9_has mml_X4_44 rfl rfl rfl rfl ⟨Nat.le_of_ble_eq_true rfl, Nat.le_of_ble_eq_true rfl⟩ (Nat.le_of_ble_eq_true rfl) ⟨Nat.le_of_ble_eq_true rfl, Nat.le_of_ble_eq_true rfl⟩ dX4_add_6 (fun r1 u H locs hw hP hD hS => ?_)
  try dsimp only at hw
  have w2 := hw
  have hP : va_P D vwCl [(a_P, .inr (4, [.ref a_T, .ref a_P_xs, .ref a_P_ys, .ref a_P_cells, .ref a_P_lows, .ref a_P_highs, .ref a_P_states, .ref a_P_men, .ref a_P_stores, .int (nI v_P_size)])), (a_P_xs, .inl (K 0, 12, .inl f_P_xs)), (a_P_ys, .inl (K 0, 12, .inl f_P_ys)), (a_P_cells, .inl (K 0, 12, .inl f_P_cells)), (a_P_lows, .inl (K 0, 12, .inl f_P_lows)), (a_P_highs, .inl (K 0, 12, .inl f_P_highs)), (a_P_states, .inl (K 0, 12, .inl f_P_states)), (a_P_men, .inl (K 0, 12, .inl f_P_men)), (a_P_stores, .inl (K 0, 12, .inl f_P_stores)), (a_T, .inr (9, [.ref a_T_heights, .ref a_T_woods, .ref a_T_treesLow, .ref a_T_treesHigh, .ref a_T_worst, .ref a_T_best, .int (nI v_T_width), .int (nI v_T_height), .int v_T_bending]))] H := hP
  have hD := uDPJ hP hD
  rcases w2 with rfl | ⟨rfl, w3, w4⟩
  · refine lv_pc (q := 9) rfl ?_
    refine lv_if_eq (tgt := 30) hx hb dX4_add_9 (by decide) (fun _ => ?_) (fun h9 => absurd (by decide) h9)
    refine lv_iconst (v := (-1)) hx hb dX4_add_30 (by decide) ?_
    exact uRi (v_P_size, f_P_xs, f_P_ys, f_P_cells, f_P_lows, f_P_highs, f_P_states, f_P_men, f_P_stores) B ⟨(by omega), r_P_xs, r_P_ys, r_P_cells⟩ (uSub hP [0, 9, 1, 2, 3, 4, 5, 6, 7, 8] rfl) (hD.sub [0, 9, 1, 2, 3, 4, 5, 6, 7, 8] rfl rfl) hS dX4_add_31
  obtain ⟨a5, ha5, ea5⟩ := w3
  obtain ⟨a6, ha6, ea6⟩ := w4
  refine lv_pc (q := 9) rfl ?_
  refine lv_if_eq (tgt := 30) hx hb dX4_add_9 (by decide) (fun h9 => absurd h9 (by decide)) (fun _ => ?_)
  refine lv_iload_n hx hb dX4_add_12 rfl (lv_at hl 3 rfl) ?_
  refine lv_iconst (v := 1) hx hb dX4_add_13 (by decide) ?_
  refine lv_icmp_lt (tgt := 30) hx hb dX4_add_14 (by decide) (fun c7 => ?_) (fun c7 => ?_)
  · refine lv_iconst (v := (-1)) hx hb dX4_add_30 (by decide) ?_
    exact uRi (v_P_size, f_P_xs, f_P_ys, f_P_cells, f_P_lows, f_P_highs, f_P_states, f_P_men, f_P_stores) B ⟨(by omega), r_P_xs, r_P_ys, r_P_cells⟩ (uSub hP [0, 9, 1, 2, 3, 4, 5, 6, 7, 8] rfl) (hD.sub [0, 9, 1, 2, 3, 4, 5, 6, 7, 8] rfl rfl) hS dX4_add_31
  refine lv_iload_n hx hb dX4_add_17 rfl (lv_at hl 3 rfl) ?_
  refine lv_iload hx hb dX4_add_18 (lv_at hl 4 rfl) ?_
  refine lv_pc (q := 20) rfl ?_
  refine lv_icmp_gt (tgt := 30) hx hb dX4_add_20 (by decide) (fun c8 => ?_) (fun c8 => ?_)
  · refine lv_iconst (v := (-1)) hx hb dX4_add_30 (by decide) ?_
    exact uRi (v_P_size, f_P_xs, f_P_ys, f_P_cells, f_P_lows, f_P_highs, f_P_states, f_P_men, f_P_stores) B ⟨(by omega), r_P_xs, r_P_ys, r_P_cells⟩ (uSub hP [0, 9, 1, 2, 3, 4, 5, 6, 7, 8] rfl) (hD.sub [0, 9, 1, 2, 3, 4, 5, 6, 7, 8] rfl rfl) hS dX4_add_31
  refine lv_iload hx hb dX4_add_23 (lv_at hl 4 rfl) ?_
  refine lv_bipush (v := 40) hx hb dX4_add_25 (by decide) ?_
  refine lv_icmp_le (tgt := 32) hx hb dX4_add_27 (by decide) (fun c9 => ?_) (fun c9 => ?_)
  · refine lv_iload hx hb dX4_add_32 (lv_at hl 6 rfl) ?_
    refine lv_if_lt (tgt := 62) hx hb dX4_add_34 (by decide) (fun c10 => ?_) (fun c10 => ?_)
    · refine lv_pc (q := 62) rfl ?_
      refine lv_iconst (v := (-1)) hx hb dX4_add_62 (by decide) ?_
      exact uRi (v_P_size, f_P_xs, f_P_ys, f_P_cells, f_P_lows, f_P_highs, f_P_states, f_P_men, f_P_stores) B ⟨(by omega), r_P_xs, r_P_ys, r_P_cells⟩ (uSub hP [0, 9, 1, 2, 3, 4, 5, 6, 7, 8] rfl) (hD.sub [0, 9, 1, 2, 3, 4, 5, 6, 7, 8] rfl rfl) hS dX4_add_63
    refine lv_pc (q := 37) rfl ?_
    refine lv_iload hx hb dX4_add_37 (lv_at hl 6 rfl) ?_
    refine lv_bipush (v := 50) hx hb dX4_add_39 (by decide) ?_
    refine lv_icmp_gt (tgt := 62) hx hb dX4_add_41 (by decide) (fun c11 => ?_) (fun c11 => ?_)
    · refine lv_iconst (v := (-1)) hx hb dX4_add_62 (by decide) ?_
      exact uRi (v_P_size, f_P_xs, f_P_ys, f_P_cells, f_P_lows, f_P_highs, f_P_states, f_P_men, f_P_stores) B ⟨(by omega), r_P_xs, r_P_ys, r_P_cells⟩ (uSub hP [0, 9, 1, 2, 3, 4, 5, 6, 7, 8] rfl) (hD.sub [0, 9, 1, 2, 3, 4, 5, 6, 7, 8] rfl rfl) hS dX4_add_63
    refine lv_aload_n hx hb dX4_add_44 rfl (lv_at hl 0 rfl) ?_
    refine uGet (ci := 4) (C := RX4) (T := TX4) (N := 10) (v := .int (nI v_P_size)) B inlX4 hP 0 rfl rfl 9 rfl mfl_X4_36 rfl rfl dX4_add_45 ?_
    refine lv_bipush (v := 12) hx hb dX4_add_48 (by decide) ?_
    refine lv_pc (q := 50) rfl ?_
    refine lv_icmp_ge (tgt := 62) hx hb dX4_add_50 (by decide) (fun c12 => ?_) (fun c12 => ?_)
    · have k_12 : 12 ≤ v_P_size := (nI_leI (a := 12) (b := v_P_size) (by omega) (by omega)).mp c12
      refine lv_iconst (v := (-1)) hx hb dX4_add_62 (by decide) ?_
      exact uRi (v_P_size, f_P_xs, f_P_ys, f_P_cells, f_P_lows, f_P_highs, f_P_states, f_P_men, f_P_stores) B ⟨(by omega), r_P_xs, r_P_ys, r_P_cells⟩ (uSub hP [0, 9, 1, 2, 3, 4, 5, 6, 7, 8] rfl) (hD.sub [0, 9, 1, 2, 3, 4, 5, 6, 7, 8] rfl rfl) hS dX4_add_63
    have k_12 : ¬ 12 ≤ v_P_size := fun h9 => c12 ((nI_leI (a := 12) (b := v_P_size) (by omega) (by omega)).mpr h9)
    refine lv_aload_n hx hb dX4_add_53 rfl (lv_at hl 0 rfl) ?_
    refine lv_iload_n hx hb dX4_add_54 rfl (lv_at hl 1 rfl) ?_
    refine lv_fixi (y := (nI a5)) ea5 ?_
    refine lv_iload_n hx hb dX4_add_55 rfl (lv_at hl 2 rfl) ?_
    refine lv_fixi (y := (nI a6)) ea6 ?_
    refine uVi (As := [.int (nI a5), .int (nI a6)]) (rest := []) (wr := [(a_P_cells, .inl (K 0, 12, .inl f_P_cells)), (a_P_lows, .inl (K 0, 12, .inl f_P_lows)), (a_P_highs, .inl (K 0, 12, .inl f_P_highs)), (a_P_states, .inl (K 0, 12, .inl f_P_states)), (a_P_men, .inl (K 0, 12, .inl f_P_men)), (a_P_stores, .inl (K 0, 12, .inl f_P_stores)), (a_T, .inr (9, [.ref a_T_heights, .ref a_T_woods, .ref a_T_treesLow, .ref a_T_treesHigh, .ref a_T_worst, .ref a_T_best, .int (nI v_T_width), .int (nI v_T_height), .int v_T_bending]))]) [(a_P, .inr (4, [.ref a_T, .ref a_P_xs, .ref a_P_ys, .ref a_P_cells, .ref a_P_lows, .ref a_P_highs, .ref a_P_states, .ref a_P_men, .ref a_P_stores, .int (nI v_P_size)])), (a_P_xs, .inl (K 0, 12, .inl f_P_xs)), (a_P_ys, .inl (K 0, 12, .inl f_P_ys))] B hl.1 hP hD hS [0, 1, 2] [3, 4, 5, 6, 7, 8, 9] rfl rfl rfl (wX4_isTaken l D K _ a_P v_P_size a_P_xs f_P_xs a_P_ys f_P_ys a_T a_P_cells a_P_lows a_P_highs a_P_states a_P_men a_P_stores (nI a5) (nI a6) (by omega) r_P_xs r_P_ys) wd_X4_isTaken mml_X4_50 rfl rfl rfl rfl ⟨Nat.le_of_ble_eq_true rfl, Nat.le_of_ble_eq_true rfl⟩ (Nat.le_of_ble_eq_true rfl) ⟨Nat.le_of_ble_eq_true rfl, Nat.le_of_ble_eq_true rfl⟩ dX4_add_56 (fun r13 u H locs hw hP hD hS => ?_)
    try dsimp only at hw
    have w14 := hw
    have hP : va_P D vwCl [(a_P_cells, .inl (K 0, 12, .inl f_P_cells)), (a_P_lows, .inl (K 0, 12, .inl f_P_lows)), (a_P_highs, .inl (K 0, 12, .inl f_P_highs)), (a_P_states, .inl (K 0, 12, .inl f_P_states)), (a_P_men, .inl (K 0, 12, .inl f_P_men)), (a_P_stores, .inl (K 0, 12, .inl f_P_stores)), (a_T, .inr (9, [.ref a_T_heights, .ref a_T_woods, .ref a_T_treesLow, .ref a_T_treesHigh, .ref a_T_worst, .ref a_T_best, .int (nI v_T_width), .int (nI v_T_height), .int v_T_bending])), (a_P, .inr (4, [.ref a_T, .ref a_P_xs, .ref a_P_ys, .ref a_P_cells, .ref a_P_lows, .ref a_P_highs, .ref a_P_states, .ref a_P_men, .ref a_P_stores, .int (nI v_P_size)])), (a_P_xs, .inl (K 0, 12, .inl f_P_xs)), (a_P_ys, .inl (K 0, 12, .inl f_P_ys))] H := hP
    have hD := uDPJ hP hD
    rcases w14 with rfl | rfl
    · refine lv_if_eq (tgt := 64) hx hb dX4_add_59 (by decide) (fun _ => ?_) (fun h9 => absurd (by decide) h9)
      refine lv_pc (q := 64) rfl ?_
      refine lv_aload_n hx hb dX4_add_64 rfl (lv_at hl 0 rfl) ?_
      refine uGet (ci := 4) (C := RX4) (T := TX4) (N := 10) (v := .ref a_P_xs) B inlX4 hP 7 rfl rfl 1 rfl mfl_X4_9 rfl rfl dX4_add_65 ?_
      refine lv_aload_n hx hb dX4_add_68 rfl (lv_at hl 0 rfl) ?_
      refine uGet (ci := 4) (C := RX4) (T := TX4) (N := 10) (v := .int (nI v_P_size)) B inlX4 hP 7 rfl rfl 9 rfl mfl_X4_36 rfl rfl dX4_add_69 ?_
      refine lv_iload_n hx hb dX4_add_72 rfl (lv_at hl 1 rfl) ?_
      refine lv_fixi (y := (nI a5)) ea5 ?_
      refine uIast (i := (nI v_P_size)) (j := v_P_size) (ws' := [(a_P_cells, .inl (K 0, 12, .inl f_P_cells)), (a_P_lows, .inl (K 0, 12, .inl f_P_lows)), (a_P_highs, .inl (K 0, 12, .inl f_P_highs)), (a_P_states, .inl (K 0, 12, .inl f_P_states)), (a_P_men, .inl (K 0, 12, .inl f_P_men)), (a_P_stores, .inl (K 0, 12, .inl f_P_stores)), (a_T, .inr (9, [.ref a_T_heights, .ref a_T_woods, .ref a_T_treesLow, .ref a_T_treesHigh, .ref a_T_worst, .ref a_T_best, .int (nI v_T_width), .int (nI v_T_height), .int v_T_bending])), (a_P, .inr (4, [.ref a_T, .ref a_P_xs, .ref a_P_ys, .ref a_P_cells, .ref a_P_lows, .ref a_P_highs, .ref a_P_states, .ref a_P_men, .ref a_P_stores, .int (nI v_P_size)])), (a_P_xs, .inl (K 0, 12, .inl (upd f_P_xs v_P_size (nI a5)))), (a_P_ys, .inl (K 0, 12, .inl f_P_ys))]) B hP hD hS 8 rfl (nI_in (by omega) (by omega)) (nI_clamp (by omega)) rfl dX4_add_73 (fun H locs hP hD hS => ?_)
      have s16 : uRg (upd f_P_xs v_P_size (nI a5)) 0 15 := (uRup r_P_xs (uLoN (by simp only [Int32.reduceToInt]; omega) (by omega)) (uHiN (by simp only [Int32.reduceToInt]; omega) (by omega)))
      refine lv_pc (q := 74) rfl ?_
      refine lv_aload_n hx hb dX4_add_74 rfl (lv_at hl 0 rfl) ?_
      refine uGet (ci := 4) (C := RX4) (T := TX4) (N := 10) (v := .ref a_P_ys) B inlX4 hP 7 rfl rfl 2 rfl mfl_X4_15 rfl rfl dX4_add_75 ?_
      refine lv_aload_n hx hb dX4_add_78 rfl (lv_at hl 0 rfl) ?_
      refine uGet (ci := 4) (C := RX4) (T := TX4) (N := 10) (v := .int (nI v_P_size)) B inlX4 hP 7 rfl rfl 9 rfl mfl_X4_36 rfl rfl dX4_add_79 ?_
      refine lv_iload_n hx hb dX4_add_82 rfl (lv_at hl 2 rfl) ?_
      refine lv_fixi (y := (nI a6)) ea6 ?_
      refine uIast (i := (nI v_P_size)) (j := v_P_size) (ws' := [(a_P_cells, .inl (K 0, 12, .inl f_P_cells)), (a_P_lows, .inl (K 0, 12, .inl f_P_lows)), (a_P_highs, .inl (K 0, 12, .inl f_P_highs)), (a_P_states, .inl (K 0, 12, .inl f_P_states)), (a_P_men, .inl (K 0, 12, .inl f_P_men)), (a_P_stores, .inl (K 0, 12, .inl f_P_stores)), (a_T, .inr (9, [.ref a_T_heights, .ref a_T_woods, .ref a_T_treesLow, .ref a_T_treesHigh, .ref a_T_worst, .ref a_T_best, .int (nI v_T_width), .int (nI v_T_height), .int v_T_bending])), (a_P, .inr (4, [.ref a_T, .ref a_P_xs, .ref a_P_ys, .ref a_P_cells, .ref a_P_lows, .ref a_P_highs, .ref a_P_states, .ref a_P_men, .ref a_P_stores, .int (nI v_P_size)])), (a_P_xs, .inl (K 0, 12, .inl (upd f_P_xs v_P_size (nI a5)))), (a_P_ys, .inl (K 0, 12, .inl (upd f_P_ys v_P_size (nI a6))))]) B hP hD hS 9 rfl (nI_in (by omega) (by omega)) (nI_clamp (by omega)) rfl dX4_add_83 (fun H locs hP hD hS => ?_)
      have s18 : uRg (upd f_P_ys v_P_size (nI a6)) 0 15 := (uRup r_P_ys (uLoN (by simp only [Int32.reduceToInt]; omega) (by omega)) (uHiN (by simp only [Int32.reduceToInt]; omega) (by omega)))
      refine lv_pc (q := 84) rfl ?_
      refine lv_aload_n hx hb dX4_add_84 rfl (lv_at hl 0 rfl) ?_
      refine uGet (ci := 4) (C := RX4) (T := TX4) (N := 10) (v := .ref a_P_cells) B inlX4 hP 7 rfl rfl 3 rfl mfl_X4_18 rfl rfl dX4_add_85 ?_
      refine lv_aload_n hx hb dX4_add_88 rfl (lv_at hl 0 rfl) ?_
      refine uGet (ci := 4) (C := RX4) (T := TX4) (N := 10) (v := .int (nI v_P_size)) B inlX4 hP 7 rfl rfl 9 rfl mfl_X4_36 rfl rfl dX4_add_89 ?_
      refine lv_iload_n hx hb dX4_add_92 rfl (lv_at hl 1 rfl) ?_
      refine lv_fixi (y := (nI a5)) ea5 ?_
      refine lv_iload_n hx hb dX4_add_93 rfl (lv_at hl 2 rfl) ?_
      refine lv_fixi (y := (nI a6)) ea6 ?_
      refine lv_pc (q := 94) rfl ?_
      refine uSi (As := [.int (nI a5), .int (nI a6)]) (rest := [.int (nI v_P_size), .ref a_P_cells]) (wr := [(a_P_cells, .inl (K 0, 12, .inl f_P_cells)), (a_P_lows, .inl (K 0, 12, .inl f_P_lows)), (a_P_highs, .inl (K 0, 12, .inl f_P_highs)), (a_P_states, .inl (K 0, 12, .inl f_P_states)), (a_P_men, .inl (K 0, 12, .inl f_P_men)), (a_P_stores, .inl (K 0, 12, .inl f_P_stores)), (a_T, .inr (9, [.ref a_T_heights, .ref a_T_woods, .ref a_T_treesLow, .ref a_T_treesHigh, .ref a_T_worst, .ref a_T_best, .int (nI v_T_width), .int (nI v_T_height), .int v_T_bending])), (a_P, .inr (4, [.ref a_T, .ref a_P_xs, .ref a_P_ys, .ref a_P_cells, .ref a_P_lows, .ref a_P_highs, .ref a_P_states, .ref a_P_men, .ref a_P_stores, .int (nI v_P_size)])), (a_P_xs, .inl (K 0, 12, .inl (upd f_P_xs v_P_size (nI a5)))), (a_P_ys, .inl (K 0, 12, .inl (upd f_P_ys v_P_size (nI a6))))]) [] B hl.1 hP hD hS [] [0, 1, 2, 3, 4, 5, 6, 7, 8, 9] rfl rfl rfl (wX9_cell l D K _ a5 a6 (by omega) (by omega)) wd_X9_cell mml_X4_53 rfl rfl ⟨Nat.le_of_ble_eq_true rfl, Nat.le_of_ble_eq_true rfl⟩ (Nat.le_of_ble_eq_true rfl) ⟨Nat.le_of_ble_eq_true rfl, Nat.le_of_ble_eq_true rfl⟩ dX4_add_94 (fun r19 u H locs hw hP hD hS => ?_)
      try dsimp only at hw
      have w20 := hw
      have hP : va_P D vwCl [(a_P_cells, .inl (K 0, 12, .inl f_P_cells)), (a_P_lows, .inl (K 0, 12, .inl f_P_lows)), (a_P_highs, .inl (K 0, 12, .inl f_P_highs)), (a_P_states, .inl (K 0, 12, .inl f_P_states)), (a_P_men, .inl (K 0, 12, .inl f_P_men)), (a_P_stores, .inl (K 0, 12, .inl f_P_stores)), (a_T, .inr (9, [.ref a_T_heights, .ref a_T_woods, .ref a_T_treesLow, .ref a_T_treesHigh, .ref a_T_worst, .ref a_T_best, .int (nI v_T_width), .int (nI v_T_height), .int v_T_bending])), (a_P, .inr (4, [.ref a_T, .ref a_P_xs, .ref a_P_ys, .ref a_P_cells, .ref a_P_lows, .ref a_P_highs, .ref a_P_states, .ref a_P_men, .ref a_P_stores, .int (nI v_P_size)])), (a_P_xs, .inl (K 0, 12, .inl (upd f_P_xs v_P_size (nI a5)))), (a_P_ys, .inl (K 0, 12, .inl (upd f_P_ys v_P_size (nI a6))))] H := hP
      have hD := uDPJ hP hD
      obtain ⟨a21, ha21, ea21⟩ := w20
      refine lv_fixi (y := (nI a21)) ea21 ?_
      refine uIast (i := (nI v_P_size)) (j := v_P_size) (ws' := [(a_P_cells, .inl (K 0, 12, .inl (upd f_P_cells v_P_size (nI a21)))), (a_P_lows, .inl (K 0, 12, .inl f_P_lows)), (a_P_highs, .inl (K 0, 12, .inl f_P_highs)), (a_P_states, .inl (K 0, 12, .inl f_P_states)), (a_P_men, .inl (K 0, 12, .inl f_P_men)), (a_P_stores, .inl (K 0, 12, .inl f_P_stores)), (a_T, .inr (9, [.ref a_T_heights, .ref a_T_woods, .ref a_T_treesLow, .ref a_T_treesHigh, .ref a_T_worst, .ref a_T_best, .int (nI v_T_width), .int (nI v_T_height), .int v_T_bending])), (a_P, .inr (4, [.ref a_T, .ref a_P_xs, .ref a_P_ys, .ref a_P_cells, .ref a_P_lows, .ref a_P_highs, .ref a_P_states, .ref a_P_men, .ref a_P_stores, .int (nI v_P_size)])), (a_P_xs, .inl (K 0, 12, .inl (upd f_P_xs v_P_size (nI a5)))), (a_P_ys, .inl (K 0, 12, .inl (upd f_P_ys v_P_size (nI a6))))]) B hP hD hS 0 rfl (nI_in (by omega) (by omega)) (nI_clamp (by omega)) rfl dX4_add_97 (fun H locs hP hD hS => ?_)
      have s23 : uRg (upd f_P_cells v_P_size (nI a21)) 0 255 := (uRup r_P_cells (uLoN (by simp only [Int32.reduceToInt]; omega) (by omega)) (uHiN (by simp only [Int32.reduceToInt]; omega) (by omega)))
      refine lv_aload_n hx hb dX4_add_98 rfl (lv_at hl 0 rfl) ?_
      refine uGet (ci := 4) (C := RX4) (T := TX4) (N := 10) (v := .ref a_P_lows) B inlX4 hP 7 rfl rfl 4 rfl mfl_X4_21 rfl rfl dX4_add_99 ?_
      refine lv_aload_n hx hb dX4_add_102 rfl (lv_at hl 0 rfl) ?_
      refine uGet (ci := 4) (C := RX4) (T := TX4) (N := 10) (v := .int (nI v_P_size)) B inlX4 hP 7 rfl rfl 9 rfl mfl_X4_36 rfl rfl dX4_add_103 ?_
      refine lv_pc (q := 106) rfl ?_
      refine lv_iload_n hx hb dX4_add_106 rfl (lv_at hl 3 rfl) ?_
      refine uIast (i := (nI v_P_size)) (j := v_P_size) (ws' := [(a_P_cells, .inl (K 0, 12, .inl (upd f_P_cells v_P_size (nI a21)))), (a_P_lows, .inl (K 0, 12, .inl (upd f_P_lows v_P_size x2))), (a_P_highs, .inl (K 0, 12, .inl f_P_highs)), (a_P_states, .inl (K 0, 12, .inl f_P_states)), (a_P_men, .inl (K 0, 12, .inl f_P_men)), (a_P_stores, .inl (K 0, 12, .inl f_P_stores)), (a_T, .inr (9, [.ref a_T_heights, .ref a_T_woods, .ref a_T_treesLow, .ref a_T_treesHigh, .ref a_T_worst, .ref a_T_best, .int (nI v_T_width), .int (nI v_T_height), .int v_T_bending])), (a_P, .inr (4, [.ref a_T, .ref a_P_xs, .ref a_P_ys, .ref a_P_cells, .ref a_P_lows, .ref a_P_highs, .ref a_P_states, .ref a_P_men, .ref a_P_stores, .int (nI v_P_size)])), (a_P_xs, .inl (K 0, 12, .inl (upd f_P_xs v_P_size (nI a5)))), (a_P_ys, .inl (K 0, 12, .inl (upd f_P_ys v_P_size (nI a6))))]) B hP hD hS 1 rfl (nI_in (by omega) (by omega)) (nI_clamp (by omega)) rfl dX4_add_107 (fun H locs hP hD hS => ?_)
      refine lv_aload_n hx hb dX4_add_108 rfl (lv_at hl 0 rfl) ?_
      refine uGet (ci := 4) (C := RX4) (T := TX4) (N := 10) (v := .ref a_P_highs) B inlX4 hP 7 rfl rfl 5 rfl mfl_X4_24 rfl rfl dX4_add_109 ?_
      refine lv_aload_n hx hb dX4_add_112 rfl (lv_at hl 0 rfl) ?_
      refine uGet (ci := 4) (C := RX4) (T := TX4) (N := 10) (v := .int (nI v_P_size)) B inlX4 hP 7 rfl rfl 9 rfl mfl_X4_36 rfl rfl dX4_add_113 ?_
      refine lv_pc (q := 116) rfl ?_
      refine lv_iload hx hb dX4_add_116 (lv_at hl 4 rfl) ?_
      refine uIast (i := (nI v_P_size)) (j := v_P_size) (ws' := [(a_P_cells, .inl (K 0, 12, .inl (upd f_P_cells v_P_size (nI a21)))), (a_P_lows, .inl (K 0, 12, .inl (upd f_P_lows v_P_size x2))), (a_P_highs, .inl (K 0, 12, .inl (upd f_P_highs v_P_size x3))), (a_P_states, .inl (K 0, 12, .inl f_P_states)), (a_P_men, .inl (K 0, 12, .inl f_P_men)), (a_P_stores, .inl (K 0, 12, .inl f_P_stores)), (a_T, .inr (9, [.ref a_T_heights, .ref a_T_woods, .ref a_T_treesLow, .ref a_T_treesHigh, .ref a_T_worst, .ref a_T_best, .int (nI v_T_width), .int (nI v_T_height), .int v_T_bending])), (a_P, .inr (4, [.ref a_T, .ref a_P_xs, .ref a_P_ys, .ref a_P_cells, .ref a_P_lows, .ref a_P_highs, .ref a_P_states, .ref a_P_men, .ref a_P_stores, .int (nI v_P_size)])), (a_P_xs, .inl (K 0, 12, .inl (upd f_P_xs v_P_size (nI a5)))), (a_P_ys, .inl (K 0, 12, .inl (upd f_P_ys v_P_size (nI a6))))]) B hP hD hS 2 rfl (nI_in (by omega) (by omega)) (nI_clamp (by omega)) rfl dX4_add_118 (fun H locs hP hD hS => ?_)
      refine lv_aload_n hx hb dX4_add_119 rfl (lv_at hl 0 rfl) ?_
      refine uGet (ci := 4) (C := RX4) (T := TX4) (N := 10) (v := .ref a_P_states) B inlX4 hP 7 rfl rfl 6 rfl mfl_X4_27 rfl rfl dX4_add_120 ?_
      refine lv_aload_n hx hb dX4_add_123 rfl (lv_at hl 0 rfl) ?_
      refine uGet (ci := 4) (C := RX4) (T := TX4) (N := 10) (v := .int (nI v_P_size)) B inlX4 hP 7 rfl rfl 9 rfl mfl_X4_36 rfl rfl dX4_add_124 ?_
      refine lv_pc (q := 127) rfl ?_
      refine lv_iload hx hb dX4_add_127 (lv_at hl 5 rfl) ?_
      refine lv_if_eq (tgt := 136) hx hb dX4_add_129 (by decide) (fun c24 => ?_) (fun c24 => ?_)
      · refine lv_iconst (v := 1) hx hb dX4_add_136 (by decide) ?_
        refine uIast (i := (nI v_P_size)) (j := v_P_size) (ws' := [(a_P_cells, .inl (K 0, 12, .inl (upd f_P_cells v_P_size (nI a21)))), (a_P_lows, .inl (K 0, 12, .inl (upd f_P_lows v_P_size x2))), (a_P_highs, .inl (K 0, 12, .inl (upd f_P_highs v_P_size x3))), (a_P_states, .inl (K 0, 12, .inl (upd f_P_states v_P_size 1))), (a_P_men, .inl (K 0, 12, .inl f_P_men)), (a_P_stores, .inl (K 0, 12, .inl f_P_stores)), (a_T, .inr (9, [.ref a_T_heights, .ref a_T_woods, .ref a_T_treesLow, .ref a_T_treesHigh, .ref a_T_worst, .ref a_T_best, .int (nI v_T_width), .int (nI v_T_height), .int v_T_bending])), (a_P, .inr (4, [.ref a_T, .ref a_P_xs, .ref a_P_ys, .ref a_P_cells, .ref a_P_lows, .ref a_P_highs, .ref a_P_states, .ref a_P_men, .ref a_P_stores, .int (nI v_P_size)])), (a_P_xs, .inl (K 0, 12, .inl (upd f_P_xs v_P_size (nI a5)))), (a_P_ys, .inl (K 0, 12, .inl (upd f_P_ys v_P_size (nI a6))))]) B hP hD hS 3 rfl (nI_in (by omega) (by omega)) (nI_clamp (by omega)) rfl dX4_add_137 (fun H locs hP hD hS => ?_)
        refine lv_aload_n hx hb dX4_add_138 rfl (lv_at hl 0 rfl) ?_
        refine uGet (ci := 4) (C := RX4) (T := TX4) (N := 10) (v := .ref a_P_men) B inlX4 hP 7 rfl rfl 7 rfl mfl_X4_30 rfl rfl dX4_add_139 ?_
        refine lv_pc (q := 142) rfl ?_
        refine lv_aload_n hx hb dX4_add_142 rfl (lv_at hl 0 rfl) ?_
        refine uGet (ci := 4) (C := RX4) (T := TX4) (N := 10) (v := .int (nI v_P_size)) B inlX4 hP 7 rfl rfl 9 rfl mfl_X4_36 rfl rfl dX4_add_143 ?_
        refine lv_iload hx hb dX4_add_146 (lv_at hl 6 rfl) ?_
        refine uIast (i := (nI v_P_size)) (j := v_P_size) (ws' := [(a_P_cells, .inl (K 0, 12, .inl (upd f_P_cells v_P_size (nI a21)))), (a_P_lows, .inl (K 0, 12, .inl (upd f_P_lows v_P_size x2))), (a_P_highs, .inl (K 0, 12, .inl (upd f_P_highs v_P_size x3))), (a_P_states, .inl (K 0, 12, .inl (upd f_P_states v_P_size 1))), (a_P_men, .inl (K 0, 12, .inl (upd f_P_men v_P_size x5))), (a_P_stores, .inl (K 0, 12, .inl f_P_stores)), (a_T, .inr (9, [.ref a_T_heights, .ref a_T_woods, .ref a_T_treesLow, .ref a_T_treesHigh, .ref a_T_worst, .ref a_T_best, .int (nI v_T_width), .int (nI v_T_height), .int v_T_bending])), (a_P, .inr (4, [.ref a_T, .ref a_P_xs, .ref a_P_ys, .ref a_P_cells, .ref a_P_lows, .ref a_P_highs, .ref a_P_states, .ref a_P_men, .ref a_P_stores, .int (nI v_P_size)])), (a_P_xs, .inl (K 0, 12, .inl (upd f_P_xs v_P_size (nI a5)))), (a_P_ys, .inl (K 0, 12, .inl (upd f_P_ys v_P_size (nI a6))))]) B hP hD hS 4 rfl (nI_in (by omega) (by omega)) (nI_clamp (by omega)) rfl dX4_add_148 (fun H locs hP hD hS => ?_)
        refine lv_aload_n hx hb dX4_add_149 rfl (lv_at hl 0 rfl) ?_
        refine uGet (ci := 4) (C := RX4) (T := TX4) (N := 10) (v := .ref a_P_stores) B inlX4 hP 7 rfl rfl 8 rfl mfl_X4_33 rfl rfl dX4_add_150 ?_
        refine lv_pc (q := 153) rfl ?_
        refine lv_aload_n hx hb dX4_add_153 rfl (lv_at hl 0 rfl) ?_
        refine uGet (ci := 4) (C := RX4) (T := TX4) (N := 10) (v := .int (nI v_P_size)) B inlX4 hP 7 rfl rfl 9 rfl mfl_X4_36 rfl rfl dX4_add_154 ?_
        refine lv_iconst (v := 0) hx hb dX4_add_157 (by decide) ?_
        refine uIast (i := (nI v_P_size)) (j := v_P_size) (ws' := [(a_P_cells, .inl (K 0, 12, .inl (upd f_P_cells v_P_size (nI a21)))), (a_P_lows, .inl (K 0, 12, .inl (upd f_P_lows v_P_size x2))), (a_P_highs, .inl (K 0, 12, .inl (upd f_P_highs v_P_size x3))), (a_P_states, .inl (K 0, 12, .inl (upd f_P_states v_P_size 1))), (a_P_men, .inl (K 0, 12, .inl (upd f_P_men v_P_size x5))), (a_P_stores, .inl (K 0, 12, .inl (upd f_P_stores v_P_size 0))), (a_T, .inr (9, [.ref a_T_heights, .ref a_T_woods, .ref a_T_treesLow, .ref a_T_treesHigh, .ref a_T_worst, .ref a_T_best, .int (nI v_T_width), .int (nI v_T_height), .int v_T_bending])), (a_P, .inr (4, [.ref a_T, .ref a_P_xs, .ref a_P_ys, .ref a_P_cells, .ref a_P_lows, .ref a_P_highs, .ref a_P_states, .ref a_P_men, .ref a_P_stores, .int (nI v_P_size)])), (a_P_xs, .inl (K 0, 12, .inl (upd f_P_xs v_P_size (nI a5)))), (a_P_ys, .inl (K 0, 12, .inl (upd f_P_ys v_P_size (nI a6))))]) B hP hD hS 5 rfl (nI_in (by omega) (by omega)) (nI_clamp (by omega)) rfl dX4_add_158 (fun H locs hP hD hS => ?_)
        refine lv_aload_n hx hb dX4_add_159 rfl (lv_at hl 0 rfl) ?_
        refine lv_dup hx hb dX4_add_160 rfl ?_
        refine lv_pc (q := 161) rfl ?_
        refine uGet (ci := 4) (C := RX4) (T := TX4) (N := 10) (v := .int (nI v_P_size)) B inlX4 hP 7 rfl rfl 9 rfl mfl_X4_36 rfl rfl dX4_add_161 ?_
        refine lv_iconst (v := 1) hx hb dX4_add_164 (by decide) ?_
        refine lv_iadd hx hb dX4_add_165 ?_
        refine lv_fixi (y := (nI (v_P_size + 1))) (by rw [show (1 : Int32) = nI 1 from rfl, nI_add]) ?_
        refine uPut (ci := 4) (C := RX4) (T := TX4) (N := 10) (ws' := [(a_P_cells, .inl (K 0, 12, .inl (upd f_P_cells v_P_size (nI a21)))), (a_P_lows, .inl (K 0, 12, .inl (upd f_P_lows v_P_size x2))), (a_P_highs, .inl (K 0, 12, .inl (upd f_P_highs v_P_size x3))), (a_P_states, .inl (K 0, 12, .inl (upd f_P_states v_P_size 1))), (a_P_men, .inl (K 0, 12, .inl (upd f_P_men v_P_size x5))), (a_P_stores, .inl (K 0, 12, .inl (upd f_P_stores v_P_size 0))), (a_T, .inr (9, [.ref a_T_heights, .ref a_T_woods, .ref a_T_treesLow, .ref a_T_treesHigh, .ref a_T_worst, .ref a_T_best, .int (nI v_T_width), .int (nI v_T_height), .int v_T_bending])), (a_P, .inr (4, [.ref a_T, .ref a_P_xs, .ref a_P_ys, .ref a_P_cells, .ref a_P_lows, .ref a_P_highs, .ref a_P_states, .ref a_P_men, .ref a_P_stores, .int (nI (v_P_size + 1))])), (a_P_xs, .inl (K 0, 12, .inl (upd f_P_xs v_P_size (nI a5)))), (a_P_ys, .inl (K 0, 12, .inl (upd f_P_ys v_P_size (nI a6))))]) B inlX4 tyX4_ok nmX4 hP hD hS 7 rfl rfl 9 rfl mfl_X4_36 rfl rfl rfl rfl rfl rfl dX4_add_166 (fun H locs hP hD hS => ?_)
        refine lv_aload_n hx hb dX4_add_169 rfl (lv_at hl 0 rfl) ?_
        refine uGet (ci := 4) (C := RX4) (T := TX4) (N := 10) (v := .int (nI (v_P_size + 1))) B inlX4 hP 7 rfl rfl 9 rfl mfl_X4_36 rfl rfl dX4_add_170 ?_
        refine lv_pc (q := 173) rfl ?_
        refine lv_iconst (v := 1) hx hb dX4_add_173 (by decide) ?_
        refine lv_isub hx hb dX4_add_174 ?_
        refine lv_fixi (y := (nI ((v_P_size + 1) - 1))) (by rw [show (1 : Int32) = nI 1 from rfl, pk_sub (by omega)]) ?_
        exact uRi (v_P_size + 1, upd f_P_xs v_P_size (nI a5), upd f_P_ys v_P_size (nI a6), upd f_P_cells v_P_size (nI a21), upd f_P_lows v_P_size x2, upd f_P_highs v_P_size x3, upd f_P_states v_P_size 1, upd f_P_men v_P_size x5, upd f_P_stores v_P_size 0) B ⟨(by omega), s16, s18, s23⟩ (uSub hP [7, 6, 8, 9, 0, 1, 2, 3, 4, 5] rfl) (hD.sub [7, 6, 8, 9, 0, 1, 2, 3, 4, 5] rfl rfl) hS dX4_add_175
      refine lv_iconst (v := 0) hx hb dX4_add_132 (by decide) ?_
      refine lv_goto (tgt := 137) hx hb dX4_add_133 (by decide) ?_
      refine uIast (i := (nI v_P_size)) (j := v_P_size) (ws' := [(a_P_cells, .inl (K 0, 12, .inl (upd f_P_cells v_P_size (nI a21)))), (a_P_lows, .inl (K 0, 12, .inl (upd f_P_lows v_P_size x2))), (a_P_highs, .inl (K 0, 12, .inl (upd f_P_highs v_P_size x3))), (a_P_states, .inl (K 0, 12, .inl (upd f_P_states v_P_size 0))), (a_P_men, .inl (K 0, 12, .inl f_P_men)), (a_P_stores, .inl (K 0, 12, .inl f_P_stores)), (a_T, .inr (9, [.ref a_T_heights, .ref a_T_woods, .ref a_T_treesLow, .ref a_T_treesHigh, .ref a_T_worst, .ref a_T_best, .int (nI v_T_width), .int (nI v_T_height), .int v_T_bending])), (a_P, .inr (4, [.ref a_T, .ref a_P_xs, .ref a_P_ys, .ref a_P_cells, .ref a_P_lows, .ref a_P_highs, .ref a_P_states, .ref a_P_men, .ref a_P_stores, .int (nI v_P_size)])), (a_P_xs, .inl (K 0, 12, .inl (upd f_P_xs v_P_size (nI a5)))), (a_P_ys, .inl (K 0, 12, .inl (upd f_P_ys v_P_size (nI a6))))]) B hP hD hS 3 rfl (nI_in (by omega) (by omega)) (nI_clamp (by omega)) rfl dX4_add_137 (fun H locs hP hD hS => ?_)
      refine lv_aload_n hx hb dX4_add_138 rfl (lv_at hl 0 rfl) ?_
      refine lv_pc (q := 139) rfl ?_
      refine uGet (ci := 4) (C := RX4) (T := TX4) (N := 10) (v := .ref a_P_men) B inlX4 hP 7 rfl rfl 7 rfl mfl_X4_30 rfl rfl dX4_add_139 ?_
      refine lv_aload_n hx hb dX4_add_142 rfl (lv_at hl 0 rfl) ?_
      refine uGet (ci := 4) (C := RX4) (T := TX4) (N := 10) (v := .int (nI v_P_size)) B inlX4 hP 7 rfl rfl 9 rfl mfl_X4_36 rfl rfl dX4_add_143 ?_
      refine lv_iload hx hb dX4_add_146 (lv_at hl 6 rfl) ?_
      refine uIast (i := (nI v_P_size)) (j := v_P_size) (ws' := [(a_P_cells, .inl (K 0, 12, .inl (upd f_P_cells v_P_size (nI a21)))), (a_P_lows, .inl (K 0, 12, .inl (upd f_P_lows v_P_size x2))), (a_P_highs, .inl (K 0, 12, .inl (upd f_P_highs v_P_size x3))), (a_P_states, .inl (K 0, 12, .inl (upd f_P_states v_P_size 0))), (a_P_men, .inl (K 0, 12, .inl (upd f_P_men v_P_size x5))), (a_P_stores, .inl (K 0, 12, .inl f_P_stores)), (a_T, .inr (9, [.ref a_T_heights, .ref a_T_woods, .ref a_T_treesLow, .ref a_T_treesHigh, .ref a_T_worst, .ref a_T_best, .int (nI v_T_width), .int (nI v_T_height), .int v_T_bending])), (a_P, .inr (4, [.ref a_T, .ref a_P_xs, .ref a_P_ys, .ref a_P_cells, .ref a_P_lows, .ref a_P_highs, .ref a_P_states, .ref a_P_men, .ref a_P_stores, .int (nI v_P_size)])), (a_P_xs, .inl (K 0, 12, .inl (upd f_P_xs v_P_size (nI a5)))), (a_P_ys, .inl (K 0, 12, .inl (upd f_P_ys v_P_size (nI a6))))]) B hP hD hS 4 rfl (nI_in (by omega) (by omega)) (nI_clamp (by omega)) rfl dX4_add_148 (fun H locs hP hD hS => ?_)
      refine lv_aload_n hx hb dX4_add_149 rfl (lv_at hl 0 rfl) ?_
      refine lv_pc (q := 150) rfl ?_
      refine uGet (ci := 4) (C := RX4) (T := TX4) (N := 10) (v := .ref a_P_stores) B inlX4 hP 7 rfl rfl 8 rfl mfl_X4_33 rfl rfl dX4_add_150 ?_
      refine lv_aload_n hx hb dX4_add_153 rfl (lv_at hl 0 rfl) ?_
      refine uGet (ci := 4) (C := RX4) (T := TX4) (N := 10) (v := .int (nI v_P_size)) B inlX4 hP 7 rfl rfl 9 rfl mfl_X4_36 rfl rfl dX4_add_154 ?_
      refine lv_iconst (v := 0) hx hb dX4_add_157 (by decide) ?_
      refine uIast (i := (nI v_P_size)) (j := v_P_size) (ws' := [(a_P_cells, .inl (K 0, 12, .inl (upd f_P_cells v_P_size (nI a21)))), (a_P_lows, .inl (K 0, 12, .inl (upd f_P_lows v_P_size x2))), (a_P_highs, .inl (K 0, 12, .inl (upd f_P_highs v_P_size x3))), (a_P_states, .inl (K 0, 12, .inl (upd f_P_states v_P_size 0))), (a_P_men, .inl (K 0, 12, .inl (upd f_P_men v_P_size x5))), (a_P_stores, .inl (K 0, 12, .inl (upd f_P_stores v_P_size 0))), (a_T, .inr (9, [.ref a_T_heights, .ref a_T_woods, .ref a_T_treesLow, .ref a_T_treesHigh, .ref a_T_worst, .ref a_T_best, .int (nI v_T_width), .int (nI v_T_height), .int v_T_bending])), (a_P, .inr (4, [.ref a_T, .ref a_P_xs, .ref a_P_ys, .ref a_P_cells, .ref a_P_lows, .ref a_P_highs, .ref a_P_states, .ref a_P_men, .ref a_P_stores, .int (nI v_P_size)])), (a_P_xs, .inl (K 0, 12, .inl (upd f_P_xs v_P_size (nI a5)))), (a_P_ys, .inl (K 0, 12, .inl (upd f_P_ys v_P_size (nI a6))))]) B hP hD hS 5 rfl (nI_in (by omega) (by omega)) (nI_clamp (by omega)) rfl dX4_add_158 (fun H locs hP hD hS => ?_)
      refine lv_aload_n hx hb dX4_add_159 rfl (lv_at hl 0 rfl) ?_
      refine lv_pc (q := 160) rfl ?_
      refine lv_dup hx hb dX4_add_160 rfl ?_
      refine uGet (ci := 4) (C := RX4) (T := TX4) (N := 10) (v := .int (nI v_P_size)) B inlX4 hP 7 rfl rfl 9 rfl mfl_X4_36 rfl rfl dX4_add_161 ?_
      refine lv_iconst (v := 1) hx hb dX4_add_164 (by decide) ?_
      refine lv_iadd hx hb dX4_add_165 ?_
      refine lv_fixi (y := (nI (v_P_size + 1))) (by rw [show (1 : Int32) = nI 1 from rfl, nI_add]) ?_
      refine uPut (ci := 4) (C := RX4) (T := TX4) (N := 10) (ws' := [(a_P_cells, .inl (K 0, 12, .inl (upd f_P_cells v_P_size (nI a21)))), (a_P_lows, .inl (K 0, 12, .inl (upd f_P_lows v_P_size x2))), (a_P_highs, .inl (K 0, 12, .inl (upd f_P_highs v_P_size x3))), (a_P_states, .inl (K 0, 12, .inl (upd f_P_states v_P_size 0))), (a_P_men, .inl (K 0, 12, .inl (upd f_P_men v_P_size x5))), (a_P_stores, .inl (K 0, 12, .inl (upd f_P_stores v_P_size 0))), (a_T, .inr (9, [.ref a_T_heights, .ref a_T_woods, .ref a_T_treesLow, .ref a_T_treesHigh, .ref a_T_worst, .ref a_T_best, .int (nI v_T_width), .int (nI v_T_height), .int v_T_bending])), (a_P, .inr (4, [.ref a_T, .ref a_P_xs, .ref a_P_ys, .ref a_P_cells, .ref a_P_lows, .ref a_P_highs, .ref a_P_states, .ref a_P_men, .ref a_P_stores, .int (nI (v_P_size + 1))])), (a_P_xs, .inl (K 0, 12, .inl (upd f_P_xs v_P_size (nI a5)))), (a_P_ys, .inl (K 0, 12, .inl (upd f_P_ys v_P_size (nI a6))))]) B inlX4 tyX4_ok nmX4 hP hD hS 7 rfl rfl 9 rfl mfl_X4_36 rfl rfl rfl rfl rfl rfl dX4_add_166 (fun H locs hP hD hS => ?_)
      refine lv_aload_n hx hb dX4_add_169 rfl (lv_at hl 0 rfl) ?_
      refine lv_pc (q := 170) rfl ?_
      refine uGet (ci := 4) (C := RX4) (T := TX4) (N := 10) (v := .int (nI (v_P_size + 1))) B inlX4 hP 7 rfl rfl 9 rfl mfl_X4_36 rfl rfl dX4_add_170 ?_
      refine lv_iconst (v := 1) hx hb dX4_add_173 (by decide) ?_
      refine lv_isub hx hb dX4_add_174 ?_
      refine lv_fixi (y := (nI ((v_P_size + 1) - 1))) (by rw [show (1 : Int32) = nI 1 from rfl, pk_sub (by omega)]) ?_
      exact uRi (v_P_size + 1, upd f_P_xs v_P_size (nI a5), upd f_P_ys v_P_size (nI a6), upd f_P_cells v_P_size (nI a21), upd f_P_lows v_P_size x2, upd f_P_highs v_P_size x3, upd f_P_states v_P_size 0, upd f_P_men v_P_size x5, upd f_P_stores v_P_size 0) B ⟨(by omega), s16, s18, s23⟩ (uSub hP [7, 6, 8, 9, 0, 1, 2, 3, 4, 5] rfl) (hD.sub [7, 6, 8, 9, 0, 1, 2, 3, 4, 5] rfl rfl) hS dX4_add_175
    refine lv_if_eq (tgt := 64) hx hb dX4_add_59 (by decide) (fun h9 => absurd h9 (by decide)) (fun _ => ?_)
    refine lv_pc (q := 62) rfl ?_
    refine lv_iconst (v := (-1)) hx hb dX4_add_62 (by decide) ?_
    exact uRi (v_P_size, f_P_xs, f_P_ys, f_P_cells, f_P_lows, f_P_highs, f_P_states, f_P_men, f_P_stores) B ⟨(by omega), r_P_xs, r_P_ys, r_P_cells⟩ (uSub hP [7, 6, 8, 9, 0, 1, 2, 3, 4, 5] rfl) (hD.sub [7, 6, 8, 9, 0, 1, 2, 3, 4, 5] rfl rfl) hS dX4_add_63
  refine lv_iconst (v := (-1)) hx hb dX4_add_30 (by decide) ?_
  exact uRi (v_P_size, f_P_xs, f_P_ys, f_P_cells, f_P_lows, f_P_highs, f_P_states, f_P_men, f_P_stores) B ⟨(by omega), r_P_xs, r_P_ys, r_P_cells⟩ (uSub hP [0, 9, 1, 2, 3, 4, 5, 6, 7, 8] rfl) (hD.sub [0, 9, 1, 2, 3, 4, 5, 6, 7, 8] rfl rfl) hS dX4_add_31

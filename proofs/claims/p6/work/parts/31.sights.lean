def qwX8_between (x0 : Nat) (x1 : Nat) (x2 : Nat) (x3 : Nat) : Int32 → (Unit) → Prop := (fun (r : Int32) (u : Unit) => (∃ a : Nat, a ≤ 15 ∧ r = nI a))
def vwX8_between (K : Nat → ClassId) (x0 : Nat) (x1 : Nat) (x2 : Nat) (x3 : Nat) : (Unit) → va_W := (fun (u : Unit) => [])
set_option maxHeartbeats 4000000 in
set_option maxRecDepth 100000 in
theorem wX8_between (l : Launch) (D : va_G) (K : Nat → ClassId) (sz : Nat) (x0 : Nat) (x1 : Nat) (x2 : Nat) (x3 : Nat) (hx0 : x0 < 16) (hx1 : x1 < 16) (hx2 : x2 < x3 + 1) (hx3 : x3 < 16) : uMi l yX8_between cX8_between 4 (some .int) { frames := 0, cells := 0, slots := 0, locals := 0 } [.int (nI x0), .int (nI x1), .int (nI x2), .int (nI x3)] D K [] sz (qwX8_between x0 x1 x2 x3) (vwX8_between K x0 x1 x2 x3) := by
  refine uMet (Qc := uQi D (qwX8_between x0 x1 x2 x3) (vwX8_between K x0 x1 x2 x3)) (ret := (some .int)) (by decide) (Nat.le_of_ble_eq_true rfl) ?_
  intro p e s m below meth c A ls hAe hsz B hP hD hS hl
  have hx := B.1
  have hb := B.2.1
  have hl : lv_has ls 4 [(0, .int (nI x0)), (1, .int (nI x1)), (2, .int (nI x2)), (3, .int (nI x3))] := hl
  refine lv_iload_n hx hb dX8_between_0 rfl (lv_at hl 3 rfl) ?_
  refine lv_iconst (v := 1) hx hb dX8_between_1 (by decide) ?_
  refine lv_icmp_ge (tgt := 9) hx hb dX8_between_2 (by decide) (fun c1 => ?_) (fun c1 => ?_)
  · have k_1 : 1 ≤ x3 := (nI_leI (a := 1) (b := x3) (by omega) (by omega)).mp c1
    have q2 := uMul15 (a := x0) (b := x3 - x2) (by omega) (by omega)
    have q3 := uMul15 (a := x1) (b := x2) (by omega) (by omega)
    refine lv_iconst (v := 2) hx hb dX8_between_9 (by decide) ?_
    refine lv_iload_n hx hb dX8_between_10 rfl (lv_at hl 0 rfl) ?_
    refine lv_pc (q := 11) rfl ?_
    refine lv_iload_n hx hb dX8_between_11 rfl (lv_at hl 3 rfl) ?_
    refine lv_iload_n hx hb dX8_between_12 rfl (lv_at hl 2 rfl) ?_
    refine lv_isub hx hb dX8_between_13 ?_
    refine lv_fixi (y := (nI (x3 - x2))) (by rw [pk_sub (by omega)]) ?_
    refine lv_imul hx hb dX8_between_14 ?_
    refine lv_fixi (y := (nI (x0 * (x3 - x2)))) (by rw [pk_mul]) ?_
    refine lv_iload_n hx hb dX8_between_15 rfl (lv_at hl 1 rfl) ?_
    refine lv_iload_n hx hb dX8_between_16 rfl (lv_at hl 2 rfl) ?_
    refine lv_pc (q := 17) rfl ?_
    refine lv_imul hx hb dX8_between_17 ?_
    refine lv_fixi (y := (nI (x1 * x2))) (by rw [pk_mul]) ?_
    refine lv_iadd hx hb dX8_between_18 ?_
    refine lv_fixi (y := (nI ((x0 * (x3 - x2)) + (x1 * x2)))) (by rw [nI_add]) ?_
    refine lv_imul hx hb dX8_between_19 ?_
    refine lv_fixi (y := (nI (2 * ((x0 * (x3 - x2)) + (x1 * x2))))) (by rw [show (2 : Int32) = nI 2 from rfl, pk_mul]) ?_
    refine lv_iload_n hx hb dX8_between_20 rfl (lv_at hl 3 rfl) ?_
    refine lv_iadd hx hb dX8_between_21 ?_
    refine lv_fixi (y := (nI ((2 * ((x0 * (x3 - x2)) + (x1 * x2))) + x3))) (by rw [nI_add]) ?_
    refine lv_iconst (v := 2) hx hb dX8_between_22 (by decide) ?_
    refine lv_pc (q := 23) rfl ?_
    refine lv_iload_n hx hb dX8_between_23 rfl (lv_at hl 3 rfl) ?_
    refine lv_imul hx hb dX8_between_24 ?_
    refine lv_fixi (y := (nI (2 * x3))) (by rw [show (2 : Int32) = nI 2 from rfl, pk_mul]) ?_
    refine lv_idiv hx hb dX8_between_25 (nI_ne0 (by omega) (by omega)) ?_
    refine lv_fixi (y := (nI (((2 * ((x0 * (x3 - x2)) + (x1 * x2))) + x3) / (2 * x3)))) (by rw [pk_div (by omega) (by omega) (by omega)]) ?_
    exact uRi () B ⟨((2 * ((x0 * (x3 - x2)) + (x1 * x2))) + x3) / (2 * x3), by first | omega | exact uBetw (by omega) (by omega) (by omega) (by omega), rfl⟩ (uSub hP [] rfl) (hD.sub [] rfl rfl) hS dX8_between_26
  have k_1 : ¬ 1 ≤ x3 := fun h9 => c1 ((nI_leI (a := 1) (b := x3) (by omega) (by omega)).mpr h9)
  refine lv_iload_n hx hb dX8_between_5 rfl (lv_at hl 0 rfl) ?_
  refine lv_goto (tgt := 26) hx hb dX8_between_6 (by decide) ?_
  refine lv_pc (q := 26) rfl ?_
  exact uRi () B ⟨x0, by first | omega | exact uBetw (by omega) (by omega) (by omega) (by omega), rfl⟩ (uSub hP [] rfl) (hD.sub [] rfl rfl) hS dX8_between_26
def qwX8_span (a_S : Nat) (a_P : Nat) (v_P_size : Nat) (a_P_xs : Nat) (f_P_xs : Nat → Int32) (a_P_ys : Nat) (f_P_ys : Nat → Int32) (a_T : Nat) (a_P_cells : Nat) (a_P_lows : Nat) (a_P_highs : Nat) (a_P_states : Nat) (a_P_men : Nat) (a_P_stores : Nat) (x0 : Nat) (x1 : Nat) : Int32 → (Unit) → Prop := (fun (r : Int32) (u : Unit) => (∃ a : Nat, a ≤ 15 ∧ r = nI a))
def vwX8_span (K : Nat → ClassId) (a_S : Nat) (a_P : Nat) (v_P_size : Nat) (a_P_xs : Nat) (f_P_xs : Nat → Int32) (a_P_ys : Nat) (f_P_ys : Nat → Int32) (a_T : Nat) (a_P_cells : Nat) (a_P_lows : Nat) (a_P_highs : Nat) (a_P_states : Nat) (a_P_men : Nat) (a_P_stores : Nat) (x0 : Nat) (x1 : Nat) : (Unit) → va_W := (fun (u : Unit) => [(a_S, .inr (8, [.ref a_T, .ref a_P])), (a_P, .inr (4, [.ref a_T, .ref a_P_xs, .ref a_P_ys, .ref a_P_cells, .ref a_P_lows, .ref a_P_highs, .ref a_P_states, .ref a_P_men, .ref a_P_stores, .int (nI v_P_size)])), (a_P_xs, .inl (K 0, 12, .inl f_P_xs)), (a_P_ys, .inl (K 0, 12, .inl f_P_ys))])
set_option maxHeartbeats 4000000 in
set_option maxRecDepth 100000 in
theorem wX8_span (l : Launch) (D : va_G) (K : Nat → ClassId) (sz : Nat) (a_S : Nat) (a_P : Nat) (v_P_size : Nat) (a_P_xs : Nat) (f_P_xs : Nat → Int32) (a_P_ys : Nat) (f_P_ys : Nat → Int32) (a_T : Nat) (a_P_cells : Nat) (a_P_lows : Nat) (a_P_highs : Nat) (a_P_states : Nat) (a_P_men : Nat) (a_P_stores : Nat) (x0 : Nat) (x1 : Nat) (hv_P_size : v_P_size ≤ 12) (r_P_xs : uRg f_P_xs 0 15) (r_P_ys : uRg f_P_ys 0 15) (hx0 : x0 < v_P_size) (hx1 : x1 < v_P_size) : uMi l yX8_span cX8_span 5 (some .int) { frames := 1, cells := 0, slots := 0, locals := 13 } [.ref a_S, .int (nI x0), .int (nI x1)] D K [(a_S, .inr (8, [.ref a_T, .ref a_P])), (a_P, .inr (4, [.ref a_T, .ref a_P_xs, .ref a_P_ys, .ref a_P_cells, .ref a_P_lows, .ref a_P_highs, .ref a_P_states, .ref a_P_men, .ref a_P_stores, .int (nI v_P_size)])), (a_P_xs, .inl (K 0, 12, .inl f_P_xs)), (a_P_ys, .inl (K 0, 12, .inl f_P_ys))] sz (qwX8_span a_S a_P v_P_size a_P_xs f_P_xs a_P_ys f_P_ys a_T a_P_cells a_P_lows a_P_highs a_P_states a_P_men a_P_stores x0 x1) (vwX8_span K a_S a_P v_P_size a_P_xs f_P_xs a_P_ys f_P_ys a_T a_P_cells a_P_lows a_P_highs a_P_states a_P_men a_P_stores x0 x1) := by
  refine uMet (Qc := uQi D (qwX8_span a_S a_P v_P_size a_P_xs f_P_xs a_P_ys f_P_ys a_T a_P_cells a_P_lows a_P_highs a_P_states a_P_men a_P_stores x0 x1) (vwX8_span K a_S a_P v_P_size a_P_xs f_P_xs a_P_ys f_P_ys a_T a_P_cells a_P_lows a_P_highs a_P_states a_P_men a_P_stores x0 x1)) (ret := (some .int)) (by decide) (Nat.le_of_ble_eq_true rfl) ?_
  intro p e s m below meth c A ls hAe hsz B hP hD hS hl
  have hx := B.1
  have hb := B.2.1
  have hl : lv_has ls 5 [(0, .ref a_S), (1, .int (nI x0)), (2, .int (nI x1))] := hl
  refine lv_aload_n hx hb dX8_span_0 rfl (lv_at hl 0 rfl) ?_
  refine uGet (ci := 8) (C := RX8) (T := TX8) (N := 2) (v := .ref a_P) B inlX8 hP 0 rfl rfl 1 rfl mfl_X8_15 rfl rfl dX8_span_1 ?_
  refine uGet (ci := 4) (C := RX4) (T := TX4) (N := 10) (v := .ref a_P_xs) B inlX4 hP 1 rfl rfl 1 rfl mfl_X8_19 rfl rfl dX8_span_4 ?_
  refine lv_iload_n hx hb dX8_span_7 rfl (lv_at hl 2 rfl) ?_
  refine uIald (i := (nI x1)) (j := x1) B hP 2 rfl (nI_in (by omega) (by omega)) (nI_clamp (by omega)) dX8_span_8 ?_
  obtain ⟨a1, ha1, ea1⟩ := uRnat r_P_xs x1 (by decide)
  simp only [Int32.reduceToInt] at ha1
  refine lv_fixi (y := (nI a1)) ea1 ?_
  refine lv_pc (q := 9) rfl ?_
  refine lv_aload_n hx hb dX8_span_9 rfl (lv_at hl 0 rfl) ?_
  refine uGet (ci := 8) (C := RX8) (T := TX8) (N := 2) (v := .ref a_P) B inlX8 hP 0 rfl rfl 1 rfl mfl_X8_15 rfl rfl dX8_span_10 ?_
  refine uGet (ci := 4) (C := RX4) (T := TX4) (N := 10) (v := .ref a_P_xs) B inlX4 hP 1 rfl rfl 1 rfl mfl_X8_19 rfl rfl dX8_span_13 ?_
  refine lv_iload_n hx hb dX8_span_16 rfl (lv_at hl 1 rfl) ?_
  refine uIald (i := (nI x0)) (j := x0) B hP 2 rfl (nI_in (by omega) (by omega)) (nI_clamp (by omega)) dX8_span_17 ?_
  obtain ⟨a2, ha2, ea2⟩ := uRnat r_P_xs x0 (by decide)
  simp only [Int32.reduceToInt] at ha2
  refine lv_fixi (y := (nI a2)) ea2 ?_
  refine lv_isub hx hb dX8_span_18 ?_
  refine lv_pc (q := 19) rfl ?_
  refine uAbs B hl.1 mml_X8_25 (Nat.le_of_ble_eq_true rfl) (Nat.le_of_ble_eq_true rfl) (Nat.le_of_ble_eq_true rfl) (Nat.le_of_ble_eq_true rfl) dX8_span_19 ?_
  obtain ⟨a3, ha3, ea3⟩ := uAbsD (a := a2) (b := a1) (by omega) (by omega)
  refine lv_fixi (y := (nI a3)) ea3 ?_
  refine lv_istore_n (lv' := [(3, .int (nI a3)), (0, .ref a_S), (1, .int (nI x0)), (2, .int (nI x1))]) hx hb dX8_span_22 rfl hl (by decide) rfl (fun ls hl => ?_)
  refine lv_aload_n hx hb dX8_span_23 rfl (lv_at hl 1 rfl) ?_
  refine uGet (ci := 8) (C := RX8) (T := TX8) (N := 2) (v := .ref a_P) B inlX8 hP 0 rfl rfl 1 rfl mfl_X8_15 rfl rfl dX8_span_24 ?_
  refine uGet (ci := 4) (C := RX4) (T := TX4) (N := 10) (v := .ref a_P_ys) B inlX4 hP 1 rfl rfl 2 rfl mfl_X8_31 rfl rfl dX8_span_27 ?_
  refine lv_iload_n hx hb dX8_span_30 rfl (lv_at hl 3 rfl) ?_
  refine lv_pc (q := 31) rfl ?_
  refine uIald (i := (nI x1)) (j := x1) B hP 3 rfl (nI_in (by omega) (by omega)) (nI_clamp (by omega)) dX8_span_31 ?_
  obtain ⟨a4, ha4, ea4⟩ := uRnat r_P_ys x1 (by decide)
  simp only [Int32.reduceToInt] at ha4
  refine lv_fixi (y := (nI a4)) ea4 ?_
  refine lv_aload_n hx hb dX8_span_32 rfl (lv_at hl 1 rfl) ?_
  refine uGet (ci := 8) (C := RX8) (T := TX8) (N := 2) (v := .ref a_P) B inlX8 hP 0 rfl rfl 1 rfl mfl_X8_15 rfl rfl dX8_span_33 ?_
  refine uGet (ci := 4) (C := RX4) (T := TX4) (N := 10) (v := .ref a_P_ys) B inlX4 hP 1 rfl rfl 2 rfl mfl_X8_31 rfl rfl dX8_span_36 ?_
  refine lv_iload_n hx hb dX8_span_39 rfl (lv_at hl 2 rfl) ?_
  refine uIald (i := (nI x0)) (j := x0) B hP 3 rfl (nI_in (by omega) (by omega)) (nI_clamp (by omega)) dX8_span_40 ?_
  obtain ⟨a5, ha5, ea5⟩ := uRnat r_P_ys x0 (by decide)
  simp only [Int32.reduceToInt] at ha5
  refine lv_fixi (y := (nI a5)) ea5 ?_
  refine lv_pc (q := 41) rfl ?_
  refine lv_isub hx hb dX8_span_41 ?_
  refine uAbs B hl.1 mml_X8_25 (Nat.le_of_ble_eq_true rfl) (Nat.le_of_ble_eq_true rfl) (Nat.le_of_ble_eq_true rfl) (Nat.le_of_ble_eq_true rfl) dX8_span_42 ?_
  obtain ⟨a6, ha6, ea6⟩ := uAbsD (a := a5) (b := a4) (by omega) (by omega)
  refine lv_fixi (y := (nI a6)) ea6 ?_
  refine lv_istore (lv' := [(4, .int (nI a6)), (3, .int (nI a3)), (0, .ref a_S), (1, .int (nI x0)), (2, .int (nI x1))]) hx hb dX8_span_45 hl (by decide) rfl (fun ls hl => ?_)
  refine lv_iload_n hx hb dX8_span_47 rfl (lv_at hl 1 rfl) ?_
  refine lv_iload hx hb dX8_span_48 (lv_at hl 0 rfl) ?_
  refine uMax B hl.1 mml_X8_34 (Nat.le_of_ble_eq_true rfl) (Nat.le_of_ble_eq_true rfl) (Nat.le_of_ble_eq_true rfl) (Nat.le_of_ble_eq_true rfl) dX8_span_50 ?_
  obtain ⟨a7, ha7, ea7⟩ := uMaxN (a := a3) (b := a6) (by omega) (by omega)
  refine lv_fixi (y := (nI a7)) ea7 ?_
  refine lv_pc (q := 53) rfl ?_
  exact uRi () B ⟨a7, by omega, rfl⟩ (uSub hP [0, 1, 2, 3] rfl) (hD.sub [0, 1, 2, 3] rfl rfl) hS dX8_span_53
def qwX8_reaches (a_S : Nat) (a_P : Nat) (v_P_size : Nat) (a_P_xs : Nat) (f_P_xs : Nat → Int32) (a_P_ys : Nat) (f_P_ys : Nat → Int32) (a_T : Nat) (a_P_cells : Nat) (a_P_lows : Nat) (a_P_highs : Nat) (a_P_states : Nat) (a_P_men : Nat) (a_P_stores : Nat) (x0 : Nat) (x1 : Nat) (x2 : Int32) : Int32 → (Unit) → Prop := (fun (r : Int32) (u : Unit) => ((r = 0) ∨ (r = 1)))
def vwX8_reaches (K : Nat → ClassId) (a_S : Nat) (a_P : Nat) (v_P_size : Nat) (a_P_xs : Nat) (f_P_xs : Nat → Int32) (a_P_ys : Nat) (f_P_ys : Nat → Int32) (a_T : Nat) (a_P_cells : Nat) (a_P_lows : Nat) (a_P_highs : Nat) (a_P_states : Nat) (a_P_men : Nat) (a_P_stores : Nat) (x0 : Nat) (x1 : Nat) (x2 : Int32) : (Unit) → va_W := (fun (u : Unit) => [(a_S, .inr (8, [.ref a_T, .ref a_P])), (a_P, .inr (4, [.ref a_T, .ref a_P_xs, .ref a_P_ys, .ref a_P_cells, .ref a_P_lows, .ref a_P_highs, .ref a_P_states, .ref a_P_men, .ref a_P_stores, .int (nI v_P_size)])), (a_P_xs, .inl (K 0, 12, .inl f_P_xs)), (a_P_ys, .inl (K 0, 12, .inl f_P_ys))])
set_option maxHeartbeats 4000000 in
set_option maxRecDepth 100000 in
theorem wX8_reaches (l : Launch) (D : va_G) (K : Nat → ClassId) (sz : Nat) (a_S : Nat) (a_P : Nat) (v_P_size : Nat) (a_P_xs : Nat) (f_P_xs : Nat → Int32) (a_P_ys : Nat) (f_P_ys : Nat → Int32) (a_T : Nat) (a_P_cells : Nat) (a_P_lows : Nat) (a_P_highs : Nat) (a_P_states : Nat) (a_P_men : Nat) (a_P_stores : Nat) (x0 : Nat) (x1 : Nat) (x2 : Int32) (hv_P_size : v_P_size ≤ 12) (r_P_xs : uRg f_P_xs 0 15) (r_P_ys : uRg f_P_ys 0 15) (hx0 : x0 < v_P_size) (hx1 : x1 < v_P_size) : uMi l yX8_reaches cX8_reaches 6 (some .boolean) { frames := 0, cells := 0, slots := 0, locals := 0 } [.ref a_S, .int (nI x0), .int (nI x1), .int x2] D K [(a_S, .inr (8, [.ref a_T, .ref a_P])), (a_P, .inr (4, [.ref a_T, .ref a_P_xs, .ref a_P_ys, .ref a_P_cells, .ref a_P_lows, .ref a_P_highs, .ref a_P_states, .ref a_P_men, .ref a_P_stores, .int (nI v_P_size)])), (a_P_xs, .inl (K 0, 12, .inl f_P_xs)), (a_P_ys, .inl (K 0, 12, .inl f_P_ys))] sz (qwX8_reaches a_S a_P v_P_size a_P_xs f_P_xs a_P_ys f_P_ys a_T a_P_cells a_P_lows a_P_highs a_P_states a_P_men a_P_stores x0 x1 x2) (vwX8_reaches K a_S a_P v_P_size a_P_xs f_P_xs a_P_ys f_P_ys a_T a_P_cells a_P_lows a_P_highs a_P_states a_P_men a_P_stores x0 x1 x2) := by
  refine uMet (Qc := uQi D (qwX8_reaches a_S a_P v_P_size a_P_xs f_P_xs a_P_ys f_P_ys a_T a_P_cells a_P_lows a_P_highs a_P_states a_P_men a_P_stores x0 x1 x2) (vwX8_reaches K a_S a_P v_P_size a_P_xs f_P_xs a_P_ys f_P_ys a_T a_P_cells a_P_lows a_P_highs a_P_states a_P_men a_P_stores x0 x1 x2)) (ret := (some .boolean)) (by decide) (Nat.le_of_ble_eq_true rfl) ?_
  intro p e s m below meth c A ls hAe hsz B hP hD hS hl
  have hx := B.1
  have hb := B.2.1
  have hl : lv_has ls 6 [(0, .ref a_S), (1, .int (nI x0)), (2, .int (nI x1)), (3, .int x2)] := hl
  refine lv_aload_n hx hb dX8_reaches_0 rfl (lv_at hl 0 rfl) ?_
  refine uGet (ci := 8) (C := RX8) (T := TX8) (N := 2) (v := .ref a_P) B inlX8 hP 0 rfl rfl 1 rfl mfl_X8_15 rfl rfl dX8_reaches_1 ?_
  refine uGet (ci := 4) (C := RX4) (T := TX4) (N := 10) (v := .ref a_P_xs) B inlX4 hP 1 rfl rfl 1 rfl mfl_X8_19 rfl rfl dX8_reaches_4 ?_
  refine lv_iload_n hx hb dX8_reaches_7 rfl (lv_at hl 2 rfl) ?_
  refine uIald (i := (nI x1)) (j := x1) B hP 2 rfl (nI_in (by omega) (by omega)) (nI_clamp (by omega)) dX8_reaches_8 ?_
  obtain ⟨a1, ha1, ea1⟩ := uRnat r_P_xs x1 (by decide)
  simp only [Int32.reduceToInt] at ha1
  refine lv_fixi (y := (nI a1)) ea1 ?_
  refine lv_pc (q := 9) rfl ?_
  refine lv_aload_n hx hb dX8_reaches_9 rfl (lv_at hl 0 rfl) ?_
  refine uGet (ci := 8) (C := RX8) (T := TX8) (N := 2) (v := .ref a_P) B inlX8 hP 0 rfl rfl 1 rfl mfl_X8_15 rfl rfl dX8_reaches_10 ?_
  refine uGet (ci := 4) (C := RX4) (T := TX4) (N := 10) (v := .ref a_P_xs) B inlX4 hP 1 rfl rfl 1 rfl mfl_X8_19 rfl rfl dX8_reaches_13 ?_
  refine lv_iload_n hx hb dX8_reaches_16 rfl (lv_at hl 1 rfl) ?_
  refine uIald (i := (nI x0)) (j := x0) B hP 2 rfl (nI_in (by omega) (by omega)) (nI_clamp (by omega)) dX8_reaches_17 ?_
  obtain ⟨a2, ha2, ea2⟩ := uRnat r_P_xs x0 (by decide)
  simp only [Int32.reduceToInt] at ha2
  refine lv_fixi (y := (nI a2)) ea2 ?_
  refine lv_isub hx hb dX8_reaches_18 ?_
  refine lv_pc (q := 19) rfl ?_
  refine lv_istore (lv' := [(4, .int ((nI a1) - (nI a2))), (0, .ref a_S), (1, .int (nI x0)), (2, .int (nI x1)), (3, .int x2)]) hx hb dX8_reaches_19 hl (by decide) rfl (fun ls hl => ?_)
  refine lv_aload_n hx hb dX8_reaches_21 rfl (lv_at hl 1 rfl) ?_
  refine uGet (ci := 8) (C := RX8) (T := TX8) (N := 2) (v := .ref a_P) B inlX8 hP 0 rfl rfl 1 rfl mfl_X8_15 rfl rfl dX8_reaches_22 ?_
  refine uGet (ci := 4) (C := RX4) (T := TX4) (N := 10) (v := .ref a_P_ys) B inlX4 hP 1 rfl rfl 2 rfl mfl_X8_31 rfl rfl dX8_reaches_25 ?_
  refine lv_iload_n hx hb dX8_reaches_28 rfl (lv_at hl 3 rfl) ?_
  refine uIald (i := (nI x1)) (j := x1) B hP 3 rfl (nI_in (by omega) (by omega)) (nI_clamp (by omega)) dX8_reaches_29 ?_
  obtain ⟨a3, ha3, ea3⟩ := uRnat r_P_ys x1 (by decide)
  simp only [Int32.reduceToInt] at ha3
  refine lv_fixi (y := (nI a3)) ea3 ?_
  refine lv_pc (q := 30) rfl ?_
  refine lv_aload_n hx hb dX8_reaches_30 rfl (lv_at hl 1 rfl) ?_
  refine uGet (ci := 8) (C := RX8) (T := TX8) (N := 2) (v := .ref a_P) B inlX8 hP 0 rfl rfl 1 rfl mfl_X8_15 rfl rfl dX8_reaches_31 ?_
  refine uGet (ci := 4) (C := RX4) (T := TX4) (N := 10) (v := .ref a_P_ys) B inlX4 hP 1 rfl rfl 2 rfl mfl_X8_31 rfl rfl dX8_reaches_34 ?_
  refine lv_iload_n hx hb dX8_reaches_37 rfl (lv_at hl 2 rfl) ?_
  refine uIald (i := (nI x0)) (j := x0) B hP 3 rfl (nI_in (by omega) (by omega)) (nI_clamp (by omega)) dX8_reaches_38 ?_
  obtain ⟨a4, ha4, ea4⟩ := uRnat r_P_ys x0 (by decide)
  simp only [Int32.reduceToInt] at ha4
  refine lv_fixi (y := (nI a4)) ea4 ?_
  refine lv_isub hx hb dX8_reaches_39 ?_
  refine lv_pc (q := 40) rfl ?_
  refine lv_istore (lv' := [(5, .int ((nI a3) - (nI a4))), (4, .int ((nI a1) - (nI a2))), (0, .ref a_S), (1, .int (nI x0)), (2, .int (nI x1)), (3, .int x2)]) hx hb dX8_reaches_40 hl (by decide) rfl (fun ls hl => ?_)
  refine lv_iload hx hb dX8_reaches_42 (lv_at hl 1 rfl) ?_
  refine lv_iload hx hb dX8_reaches_44 (lv_at hl 1 rfl) ?_
  refine lv_imul hx hb dX8_reaches_46 ?_
  refine lv_iload hx hb dX8_reaches_47 (lv_at hl 0 rfl) ?_
  refine lv_iload hx hb dX8_reaches_49 (lv_at hl 0 rfl) ?_
  refine lv_pc (q := 51) rfl ?_
  refine lv_imul hx hb dX8_reaches_51 ?_
  refine lv_iadd hx hb dX8_reaches_52 ?_
  refine lv_iload_n hx hb dX8_reaches_53 rfl (lv_at hl 5 rfl) ?_
  refine lv_iload_n hx hb dX8_reaches_54 rfl (lv_at hl 5 rfl) ?_
  refine lv_imul hx hb dX8_reaches_55 ?_
  refine lv_icmp_gt (tgt := 63) hx hb dX8_reaches_56 (by decide) (fun c5 => ?_) (fun c5 => ?_)
  · refine lv_pc (q := 63) rfl ?_
    refine lv_iconst (v := 0) hx hb dX8_reaches_63 (by decide) ?_
    exact uRz () B rfl (Or.inl rfl) (uSub hP [0, 1, 2, 3] rfl) (hD.sub [0, 1, 2, 3] rfl rfl) hS dX8_reaches_64
  refine lv_pc (q := 59) rfl ?_
  refine lv_iconst (v := 1) hx hb dX8_reaches_59 (by decide) ?_
  refine lv_goto (tgt := 64) hx hb dX8_reaches_60 (by decide) ?_
  exact uRz () B rfl (Or.inr rfl) (uSub hP [0, 1, 2, 3] rfl) (hD.sub [0, 1, 2, 3] rfl rfl) hS dX8_reaches_64
def qwX8_excess (a_S : Nat) (a_T : Nat) (v_T_width : Nat) (v_T_height : Nat) (v_T_bending : Int32) (a_T_heights : Nat) (f_T_heights : Nat → Int32) (a_T_woods : Nat) (f_T_woods : Nat → Int32) (a_T_treesLow : Nat) (f_T_treesLow : Nat → Int32) (a_T_treesHigh : Nat) (f_T_treesHigh : Nat → Int32) (a_P : Nat) (v_P_size : Nat) (a_P_xs : Nat) (f_P_xs : Nat → Int32) (a_P_ys : Nat) (f_P_ys : Nat → Int32) (a_P_cells : Nat) (f_P_cells : Nat → Int32) (a_P_lows : Nat) (f_P_lows : Nat → Int32) (a_P_highs : Nat) (f_P_highs : Nat → Int32) (a_T_worst : Nat) (a_T_best : Nat) (a_P_states : Nat) (a_P_men : Nat) (a_P_stores : Nat) (x0 : Nat) (x1 : Nat) (x2 : Nat) (x3 : Nat) (x4 : Int32) : Int32 → (Unit) → Prop := (fun (r : Int32) (u : Unit) => True)
def vwX8_excess (K : Nat → ClassId) (a_S : Nat) (a_T : Nat) (v_T_width : Nat) (v_T_height : Nat) (v_T_bending : Int32) (a_T_heights : Nat) (f_T_heights : Nat → Int32) (a_T_woods : Nat) (f_T_woods : Nat → Int32) (a_T_treesLow : Nat) (f_T_treesLow : Nat → Int32) (a_T_treesHigh : Nat) (f_T_treesHigh : Nat → Int32) (a_P : Nat) (v_P_size : Nat) (a_P_xs : Nat) (f_P_xs : Nat → Int32) (a_P_ys : Nat) (f_P_ys : Nat → Int32) (a_P_cells : Nat) (f_P_cells : Nat → Int32) (a_P_lows : Nat) (f_P_lows : Nat → Int32) (a_P_highs : Nat) (f_P_highs : Nat → Int32) (a_T_worst : Nat) (a_T_best : Nat) (a_P_states : Nat) (a_P_men : Nat) (a_P_stores : Nat) (x0 : Nat) (x1 : Nat) (x2 : Nat) (x3 : Nat) (x4 : Int32) : (Unit) → va_W := (fun (u : Unit) => [(a_S, .inr (8, [.ref a_T, .ref a_P])), (a_T, .inr (9, [.ref a_T_heights, .ref a_T_woods, .ref a_T_treesLow, .ref a_T_treesHigh, .ref a_T_worst, .ref a_T_best, .int (nI v_T_width), .int (nI v_T_height), .int v_T_bending])), (a_T_heights, .inl (K 0, 256, .inl f_T_heights)), (a_T_woods, .inl (K 0, 256, .inl f_T_woods)), (a_T_treesLow, .inl (K 0, 4, .inl f_T_treesLow)), (a_T_treesHigh, .inl (K 0, 4, .inl f_T_treesHigh)), (a_P, .inr (4, [.ref a_T, .ref a_P_xs, .ref a_P_ys, .ref a_P_cells, .ref a_P_lows, .ref a_P_highs, .ref a_P_states, .ref a_P_men, .ref a_P_stores, .int (nI v_P_size)])), (a_P_xs, .inl (K 0, 12, .inl f_P_xs)), (a_P_ys, .inl (K 0, 12, .inl f_P_ys)), (a_P_cells, .inl (K 0, 12, .inl f_P_cells)), (a_P_lows, .inl (K 0, 12, .inl f_P_lows)), (a_P_highs, .inl (K 0, 12, .inl f_P_highs))])
set_option maxHeartbeats 4000000 in
set_option maxRecDepth 100000 in
theorem wX8_excess (l : Launch) (D : va_G) (K : Nat → ClassId) (sz : Nat) (a_S : Nat) (a_T : Nat) (v_T_width : Nat) (v_T_height : Nat) (v_T_bending : Int32) (a_T_heights : Nat) (f_T_heights : Nat → Int32) (a_T_woods : Nat) (f_T_woods : Nat → Int32) (a_T_treesLow : Nat) (f_T_treesLow : Nat → Int32) (a_T_treesHigh : Nat) (f_T_treesHigh : Nat → Int32) (a_P : Nat) (v_P_size : Nat) (a_P_xs : Nat) (f_P_xs : Nat → Int32) (a_P_ys : Nat) (f_P_ys : Nat → Int32) (a_P_cells : Nat) (f_P_cells : Nat → Int32) (a_P_lows : Nat) (f_P_lows : Nat → Int32) (a_P_highs : Nat) (f_P_highs : Nat → Int32) (a_T_worst : Nat) (a_T_best : Nat) (a_P_states : Nat) (a_P_men : Nat) (a_P_stores : Nat) (x0 : Nat) (x1 : Nat) (x2 : Nat) (x3 : Nat) (x4 : Int32) (hv_T_width : v_T_width ≤ 16) (gv_T_width : 4 ≤ v_T_width) (hv_T_height : v_T_height ≤ 16) (gv_T_height : 4 ≤ v_T_height) (r_T_woods : uRg f_T_woods 0 3) (hv_P_size : v_P_size ≤ 12) (r_P_xs : uRg f_P_xs 0 15) (r_P_ys : uRg f_P_ys 0 15) (r_P_cells : uRg f_P_cells 0 255) (hx0 : x0 < v_P_size) (hx1 : x1 < v_P_size) (hx2 : x2 < x3 + 1) (hx3 : x3 < 16) (hx4 : x4 = 0 ∨ x4 = 1) : uMi l yX8_excess cX8_excess 11 (some .int) { frames := 1, cells := 0, slots := 0, locals := 23 } [.ref a_S, .int (nI x0), .int (nI x1), .int (nI x2), .int (nI x3), .int x4] D K [(a_S, .inr (8, [.ref a_T, .ref a_P])), (a_T, .inr (9, [.ref a_T_heights, .ref a_T_woods, .ref a_T_treesLow, .ref a_T_treesHigh, .ref a_T_worst, .ref a_T_best, .int (nI v_T_width), .int (nI v_T_height), .int v_T_bending])), (a_T_heights, .inl (K 0, 256, .inl f_T_heights)), (a_T_woods, .inl (K 0, 256, .inl f_T_woods)), (a_T_treesLow, .inl (K 0, 4, .inl f_T_treesLow)), (a_T_treesHigh, .inl (K 0, 4, .inl f_T_treesHigh)), (a_P, .inr (4, [.ref a_T, .ref a_P_xs, .ref a_P_ys, .ref a_P_cells, .ref a_P_lows, .ref a_P_highs, .ref a_P_states, .ref a_P_men, .ref a_P_stores, .int (nI v_P_size)])), (a_P_xs, .inl (K 0, 12, .inl f_P_xs)), (a_P_ys, .inl (K 0, 12, .inl f_P_ys)), (a_P_cells, .inl (K 0, 12, .inl f_P_cells)), (a_P_lows, .inl (K 0, 12, .inl f_P_lows)), (a_P_highs, .inl (K 0, 12, .inl f_P_highs))] sz (qwX8_excess a_S a_T v_T_width v_T_height v_T_bending a_T_heights f_T_heights a_T_woods f_T_woods a_T_treesLow f_T_treesLow a_T_treesHigh f_T_treesHigh a_P v_P_size a_P_xs f_P_xs a_P_ys f_P_ys a_P_cells f_P_cells a_P_lows f_P_lows a_P_highs f_P_highs a_T_worst a_T_best a_P_states a_P_men a_P_stores x0 x1 x2 x3 x4) (vwX8_excess K a_S a_T v_T_width v_T_height v_T_bending a_T_heights f_T_heights a_T_woods f_T_woods a_T_treesLow f_T_treesLow a_T_treesHigh f_T_treesHigh a_P v_P_size a_P_xs f_P_xs a_P_ys f_P_ys a_P_cells f_P_cells a_P_lows f_P_lows a_P_highs f_P_highs a_T_worst a_T_best a_P_states a_P_men a_P_stores x0 x1 x2 x3 x4) := by
  refine uMet (Qc := uQi D (qwX8_excess a_S a_T v_T_width v_T_height v_T_bending a_T_heights f_T_heights a_T_woods f_T_woods a_T_treesLow f_T_treesLow a_T_treesHigh f_T_treesHigh a_P v_P_size a_P_xs f_P_xs a_P_ys f_P_ys a_P_cells f_P_cells a_P_lows f_P_lows a_P_highs f_P_highs a_T_worst a_T_best a_P_states a_P_men a_P_stores x0 x1 x2 x3 x4) (vwX8_excess K a_S a_T v_T_width v_T_height v_T_bending a_T_heights f_T_heights a_T_woods f_T_woods a_T_treesLow f_T_treesLow a_T_treesHigh f_T_treesHigh a_P v_P_size a_P_xs f_P_xs a_P_ys f_P_ys a_P_cells f_P_cells a_P_lows f_P_lows a_P_highs f_P_highs a_T_worst a_T_best a_P_states a_P_men a_P_stores x0 x1 x2 x3 x4)) (ret := (some .int)) (by decide) (Nat.le_of_ble_eq_true rfl) ?_
  intro p e s m below meth c A ls hAe hsz B hP hD hS hl
  have hx := B.1
  have hb := B.2.1
  have hl : lv_has ls 11 [(0, .ref a_S), (1, .int (nI x0)), (2, .int (nI x1)), (3, .int (nI x2)), (4, .int (nI x3)), (5, .int x4)] := hl
  refine lv_aload_n hx hb dX8_excess_0 rfl (lv_at hl 0 rfl) ?_
  refine uGet (ci := 8) (C := RX8) (T := TX8) (N := 2) (v := .ref a_P) B inlX8 hP 0 rfl rfl 1 rfl mfl_X8_15 rfl rfl dX8_excess_1 ?_
  refine uGet (ci := 4) (C := RX4) (T := TX4) (N := 10) (v := .ref a_P_xs) B inlX4 hP 6 rfl rfl 1 rfl mfl_X8_19 rfl rfl dX8_excess_4 ?_
  refine lv_iload_n hx hb dX8_excess_7 rfl (lv_at hl 1 rfl) ?_
  refine uIald (i := (nI x0)) (j := x0) B hP 7 rfl (nI_in (by omega) (by omega)) (nI_clamp (by omega)) dX8_excess_8 ?_
  obtain ⟨a1, ha1, ea1⟩ := uRnat r_P_xs x0 (by decide)
  simp only [Int32.reduceToInt] at ha1
  refine lv_fixi (y := (nI a1)) ea1 ?_
  refine lv_pc (q := 9) rfl ?_
  refine lv_aload_n hx hb dX8_excess_9 rfl (lv_at hl 0 rfl) ?_
  refine uGet (ci := 8) (C := RX8) (T := TX8) (N := 2) (v := .ref a_P) B inlX8 hP 0 rfl rfl 1 rfl mfl_X8_15 rfl rfl dX8_excess_10 ?_
  refine uGet (ci := 4) (C := RX4) (T := TX4) (N := 10) (v := .ref a_P_xs) B inlX4 hP 6 rfl rfl 1 rfl mfl_X8_19 rfl rfl dX8_excess_13 ?_
  refine lv_iload_n hx hb dX8_excess_16 rfl (lv_at hl 2 rfl) ?_
  refine uIald (i := (nI x1)) (j := x1) B hP 7 rfl (nI_in (by omega) (by omega)) (nI_clamp (by omega)) dX8_excess_17 ?_
  obtain ⟨a2, ha2, ea2⟩ := uRnat r_P_xs x1 (by decide)
  simp only [Int32.reduceToInt] at ha2
  refine lv_fixi (y := (nI a2)) ea2 ?_
  refine lv_iload_n hx hb dX8_excess_18 rfl (lv_at hl 3 rfl) ?_
  refine lv_pc (q := 19) rfl ?_
  refine lv_iload hx hb dX8_excess_19 (lv_at hl 4 rfl) ?_
  refine uSi (As := [.int (nI a1), .int (nI a2), .int (nI x2), .int (nI x3)]) (rest := []) (wr := [(a_S, .inr (8, [.ref a_T, .ref a_P])), (a_T, .inr (9, [.ref a_T_heights, .ref a_T_woods, .ref a_T_treesLow, .ref a_T_treesHigh, .ref a_T_worst, .ref a_T_best, .int (nI v_T_width), .int (nI v_T_height), .int v_T_bending])), (a_T_heights, .inl (K 0, 256, .inl f_T_heights)), (a_T_woods, .inl (K 0, 256, .inl f_T_woods)), (a_T_treesLow, .inl (K 0, 4, .inl f_T_treesLow)), (a_T_treesHigh, .inl (K 0, 4, .inl f_T_treesHigh)), (a_P, .inr (4, [.ref a_T, .ref a_P_xs, .ref a_P_ys, .ref a_P_cells, .ref a_P_lows, .ref a_P_highs, .ref a_P_states, .ref a_P_men, .ref a_P_stores, .int (nI v_P_size)])), (a_P_xs, .inl (K 0, 12, .inl f_P_xs)), (a_P_ys, .inl (K 0, 12, .inl f_P_ys)), (a_P_cells, .inl (K 0, 12, .inl f_P_cells)), (a_P_lows, .inl (K 0, 12, .inl f_P_lows)), (a_P_highs, .inl (K 0, 12, .inl f_P_highs))]) [] B hl.1 hP hD hS [] [0, 1, 2, 3, 4, 5, 6, 7, 8, 9, 10, 11] rfl rfl rfl (wX8_between l D K _ a1 a2 x2 x3 (by omega) (by omega) (by omega) (by omega)) wd_X8_between mml_X8_41 rfl rfl ⟨Nat.le_of_ble_eq_true rfl, Nat.le_of_ble_eq_true rfl⟩ (Nat.le_of_ble_eq_true rfl) ⟨Nat.le_of_ble_eq_true rfl, Nat.le_of_ble_eq_true rfl⟩ dX8_excess_21 (fun r3 u H locs hw hP hD hS => ?_)
  try dsimp only at hw
  have w4 := hw
  have hP : va_P D vwCl [(a_S, .inr (8, [.ref a_T, .ref a_P])), (a_T, .inr (9, [.ref a_T_heights, .ref a_T_woods, .ref a_T_treesLow, .ref a_T_treesHigh, .ref a_T_worst, .ref a_T_best, .int (nI v_T_width), .int (nI v_T_height), .int v_T_bending])), (a_T_heights, .inl (K 0, 256, .inl f_T_heights)), (a_T_woods, .inl (K 0, 256, .inl f_T_woods)), (a_T_treesLow, .inl (K 0, 4, .inl f_T_treesLow)), (a_T_treesHigh, .inl (K 0, 4, .inl f_T_treesHigh)), (a_P, .inr (4, [.ref a_T, .ref a_P_xs, .ref a_P_ys, .ref a_P_cells, .ref a_P_lows, .ref a_P_highs, .ref a_P_states, .ref a_P_men, .ref a_P_stores, .int (nI v_P_size)])), (a_P_xs, .inl (K 0, 12, .inl f_P_xs)), (a_P_ys, .inl (K 0, 12, .inl f_P_ys)), (a_P_cells, .inl (K 0, 12, .inl f_P_cells)), (a_P_lows, .inl (K 0, 12, .inl f_P_lows)), (a_P_highs, .inl (K 0, 12, .inl f_P_highs))] H := hP
  have hD := uDPJ hP hD
  obtain ⟨a5, ha5, ea5⟩ := w4
  refine lv_fixi (y := (nI a5)) ea5 ?_
  refine lv_istore (lv' := [(6, .int (nI a5)), (0, .ref a_S), (1, .int (nI x0)), (2, .int (nI x1)), (3, .int (nI x2)), (4, .int (nI x3)), (5, .int x4)]) hx hb dX8_excess_24 hl (by decide) rfl (fun ls hl => ?_)
  refine lv_aload_n hx hb dX8_excess_26 rfl (lv_at hl 1 rfl) ?_
  refine uGet (ci := 8) (C := RX8) (T := TX8) (N := 2) (v := .ref a_P) B inlX8 hP 0 rfl rfl 1 rfl mfl_X8_15 rfl rfl dX8_excess_27 ?_
  refine uGet (ci := 4) (C := RX4) (T := TX4) (N := 10) (v := .ref a_P_ys) B inlX4 hP 6 rfl rfl 2 rfl mfl_X8_31 rfl rfl dX8_excess_30 ?_
  refine lv_pc (q := 33) rfl ?_
  refine lv_iload_n hx hb dX8_excess_33 rfl (lv_at hl 2 rfl) ?_
  refine uIald (i := (nI x0)) (j := x0) B hP 8 rfl (nI_in (by omega) (by omega)) (nI_clamp (by omega)) dX8_excess_34 ?_
  obtain ⟨a6, ha6, ea6⟩ := uRnat r_P_ys x0 (by decide)
  simp only [Int32.reduceToInt] at ha6
  refine lv_fixi (y := (nI a6)) ea6 ?_
  refine lv_aload_n hx hb dX8_excess_35 rfl (lv_at hl 1 rfl) ?_
  refine uGet (ci := 8) (C := RX8) (T := TX8) (N := 2) (v := .ref a_P) B inlX8 hP 0 rfl rfl 1 rfl mfl_X8_15 rfl rfl dX8_excess_36 ?_
  refine uGet (ci := 4) (C := RX4) (T := TX4) (N := 10) (v := .ref a_P_ys) B inlX4 hP 6 rfl rfl 2 rfl mfl_X8_31 rfl rfl dX8_excess_39 ?_
  refine lv_iload_n hx hb dX8_excess_42 rfl (lv_at hl 3 rfl) ?_
  refine lv_pc (q := 43) rfl ?_
  refine uIald (i := (nI x1)) (j := x1) B hP 8 rfl (nI_in (by omega) (by omega)) (nI_clamp (by omega)) dX8_excess_43 ?_
  obtain ⟨a7, ha7, ea7⟩ := uRnat r_P_ys x1 (by decide)
  simp only [Int32.reduceToInt] at ha7
  refine lv_fixi (y := (nI a7)) ea7 ?_
  refine lv_iload_n hx hb dX8_excess_44 rfl (lv_at hl 4 rfl) ?_
  refine lv_iload hx hb dX8_excess_45 (lv_at hl 5 rfl) ?_
  refine uSi (As := [.int (nI a6), .int (nI a7), .int (nI x2), .int (nI x3)]) (rest := []) (wr := [(a_S, .inr (8, [.ref a_T, .ref a_P])), (a_T, .inr (9, [.ref a_T_heights, .ref a_T_woods, .ref a_T_treesLow, .ref a_T_treesHigh, .ref a_T_worst, .ref a_T_best, .int (nI v_T_width), .int (nI v_T_height), .int v_T_bending])), (a_T_heights, .inl (K 0, 256, .inl f_T_heights)), (a_T_woods, .inl (K 0, 256, .inl f_T_woods)), (a_T_treesLow, .inl (K 0, 4, .inl f_T_treesLow)), (a_T_treesHigh, .inl (K 0, 4, .inl f_T_treesHigh)), (a_P, .inr (4, [.ref a_T, .ref a_P_xs, .ref a_P_ys, .ref a_P_cells, .ref a_P_lows, .ref a_P_highs, .ref a_P_states, .ref a_P_men, .ref a_P_stores, .int (nI v_P_size)])), (a_P_xs, .inl (K 0, 12, .inl f_P_xs)), (a_P_ys, .inl (K 0, 12, .inl f_P_ys)), (a_P_cells, .inl (K 0, 12, .inl f_P_cells)), (a_P_lows, .inl (K 0, 12, .inl f_P_lows)), (a_P_highs, .inl (K 0, 12, .inl f_P_highs))]) [] B hl.1 hP hD hS [] [0, 1, 2, 3, 4, 5, 6, 7, 8, 9, 10, 11] rfl rfl rfl (wX8_between l D K _ a6 a7 x2 x3 (by omega) (by omega) (by omega) (by omega)) wd_X8_between mml_X8_41 rfl rfl ⟨Nat.le_of_ble_eq_true rfl, Nat.le_of_ble_eq_true rfl⟩ (Nat.le_of_ble_eq_true rfl) ⟨Nat.le_of_ble_eq_true rfl, Nat.le_of_ble_eq_true rfl⟩ dX8_excess_47 (fun r8 u H locs hw hP hD hS => ?_)
  try dsimp only at hw
  have w9 := hw
  have hP : va_P D vwCl [(a_S, .inr (8, [.ref a_T, .ref a_P])), (a_T, .inr (9, [.ref a_T_heights, .ref a_T_woods, .ref a_T_treesLow, .ref a_T_treesHigh, .ref a_T_worst, .ref a_T_best, .int (nI v_T_width), .int (nI v_T_height), .int v_T_bending])), (a_T_heights, .inl (K 0, 256, .inl f_T_heights)), (a_T_woods, .inl (K 0, 256, .inl f_T_woods)), (a_T_treesLow, .inl (K 0, 4, .inl f_T_treesLow)), (a_T_treesHigh, .inl (K 0, 4, .inl f_T_treesHigh)), (a_P, .inr (4, [.ref a_T, .ref a_P_xs, .ref a_P_ys, .ref a_P_cells, .ref a_P_lows, .ref a_P_highs, .ref a_P_states, .ref a_P_men, .ref a_P_stores, .int (nI v_P_size)])), (a_P_xs, .inl (K 0, 12, .inl f_P_xs)), (a_P_ys, .inl (K 0, 12, .inl f_P_ys)), (a_P_cells, .inl (K 0, 12, .inl f_P_cells)), (a_P_lows, .inl (K 0, 12, .inl f_P_lows)), (a_P_highs, .inl (K 0, 12, .inl f_P_highs))] H := hP
  have hD := uDPJ hP hD
  obtain ⟨a10, ha10, ea10⟩ := w9
  refine lv_fixi (y := (nI a10)) ea10 ?_
  refine lv_istore (lv' := [(7, .int (nI a10)), (6, .int (nI a5)), (0, .ref a_S), (1, .int (nI x0)), (2, .int (nI x1)), (3, .int (nI x2)), (4, .int (nI x3)), (5, .int x4)]) hx hb dX8_excess_50 hl (by decide) rfl (fun ls hl => ?_)
  refine lv_aload_n hx hb dX8_excess_52 rfl (lv_at hl 2 rfl) ?_
  refine lv_pc (q := 53) rfl ?_
  refine uGet (ci := 8) (C := RX8) (T := TX8) (N := 2) (v := .ref a_T) B inlX8 hP 0 rfl rfl 0 rfl mfl_X8_9 rfl rfl dX8_excess_53 ?_
  refine lv_iload hx hb dX8_excess_56 (lv_at hl 1 rfl) ?_
  refine lv_iload hx hb dX8_excess_58 (lv_at hl 0 rfl) ?_
  refine uSi (As := [.int (nI a5), .int (nI a10)]) (rest := [.ref a_T]) (wr := [(a_S, .inr (8, [.ref a_T, .ref a_P])), (a_T, .inr (9, [.ref a_T_heights, .ref a_T_woods, .ref a_T_treesLow, .ref a_T_treesHigh, .ref a_T_worst, .ref a_T_best, .int (nI v_T_width), .int (nI v_T_height), .int v_T_bending])), (a_T_heights, .inl (K 0, 256, .inl f_T_heights)), (a_T_woods, .inl (K 0, 256, .inl f_T_woods)), (a_T_treesLow, .inl (K 0, 4, .inl f_T_treesLow)), (a_T_treesHigh, .inl (K 0, 4, .inl f_T_treesHigh)), (a_P, .inr (4, [.ref a_T, .ref a_P_xs, .ref a_P_ys, .ref a_P_cells, .ref a_P_lows, .ref a_P_highs, .ref a_P_states, .ref a_P_men, .ref a_P_stores, .int (nI v_P_size)])), (a_P_xs, .inl (K 0, 12, .inl f_P_xs)), (a_P_ys, .inl (K 0, 12, .inl f_P_ys)), (a_P_cells, .inl (K 0, 12, .inl f_P_cells)), (a_P_lows, .inl (K 0, 12, .inl f_P_lows)), (a_P_highs, .inl (K 0, 12, .inl f_P_highs))]) [] B hl.1 hP hD hS [] [0, 1, 2, 3, 4, 5, 6, 7, 8, 9, 10, 11] rfl rfl rfl (wX9_cell l D K _ a5 a10 (by omega) (by omega)) wd_X9_cell mml_X8_51 rfl rfl ⟨Nat.le_of_ble_eq_true rfl, Nat.le_of_ble_eq_true rfl⟩ (Nat.le_of_ble_eq_true rfl) ⟨Nat.le_of_ble_eq_true rfl, Nat.le_of_ble_eq_true rfl⟩ dX8_excess_60 (fun r11 u H locs hw hP hD hS => ?_)
  try dsimp only at hw
  have w12 := hw
  have hP : va_P D vwCl [(a_S, .inr (8, [.ref a_T, .ref a_P])), (a_T, .inr (9, [.ref a_T_heights, .ref a_T_woods, .ref a_T_treesLow, .ref a_T_treesHigh, .ref a_T_worst, .ref a_T_best, .int (nI v_T_width), .int (nI v_T_height), .int v_T_bending])), (a_T_heights, .inl (K 0, 256, .inl f_T_heights)), (a_T_woods, .inl (K 0, 256, .inl f_T_woods)), (a_T_treesLow, .inl (K 0, 4, .inl f_T_treesLow)), (a_T_treesHigh, .inl (K 0, 4, .inl f_T_treesHigh)), (a_P, .inr (4, [.ref a_T, .ref a_P_xs, .ref a_P_ys, .ref a_P_cells, .ref a_P_lows, .ref a_P_highs, .ref a_P_states, .ref a_P_men, .ref a_P_stores, .int (nI v_P_size)])), (a_P_xs, .inl (K 0, 12, .inl f_P_xs)), (a_P_ys, .inl (K 0, 12, .inl f_P_ys)), (a_P_cells, .inl (K 0, 12, .inl f_P_cells)), (a_P_lows, .inl (K 0, 12, .inl f_P_lows)), (a_P_highs, .inl (K 0, 12, .inl f_P_highs))] H := hP
  have hD := uDPJ hP hD
  obtain ⟨a13, ha13, ea13⟩ := w12
  refine lv_fixi (y := (nI a13)) ea13 ?_
  refine lv_iload hx hb dX8_excess_63 (lv_at hl 7 rfl) ?_
  refine uVi (As := [.int (nI a13), .int x4]) (rest := []) (wr := [(a_S, .inr (8, [.ref a_T, .ref a_P])), (a_P, .inr (4, [.ref a_T, .ref a_P_xs, .ref a_P_ys, .ref a_P_cells, .ref a_P_lows, .ref a_P_highs, .ref a_P_states, .ref a_P_men, .ref a_P_stores, .int (nI v_P_size)])), (a_P_xs, .inl (K 0, 12, .inl f_P_xs)), (a_P_ys, .inl (K 0, 12, .inl f_P_ys)), (a_P_cells, .inl (K 0, 12, .inl f_P_cells)), (a_P_lows, .inl (K 0, 12, .inl f_P_lows)), (a_P_highs, .inl (K 0, 12, .inl f_P_highs))]) [(a_T, .inr (9, [.ref a_T_heights, .ref a_T_woods, .ref a_T_treesLow, .ref a_T_treesHigh, .ref a_T_worst, .ref a_T_best, .int (nI v_T_width), .int (nI v_T_height), .int v_T_bending])), (a_T_heights, .inl (K 0, 256, .inl f_T_heights)), (a_T_woods, .inl (K 0, 256, .inl f_T_woods)), (a_T_treesLow, .inl (K 0, 4, .inl f_T_treesLow)), (a_T_treesHigh, .inl (K 0, 4, .inl f_T_treesHigh))] B hl.1 hP hD hS [1, 2, 3, 4, 5] [0, 6, 7, 8, 9, 10, 11] rfl rfl rfl (wX9_topAt l D K _ a_T v_T_width v_T_height v_T_bending a_T_heights f_T_heights a_T_woods f_T_woods a_T_treesLow f_T_treesLow a_T_treesHigh f_T_treesHigh a_T_worst a_T_best a13 x4 (by omega) (by omega) (by omega) (by omega) r_T_woods (by omega) hx4) wd_X9_topAt mml_X8_54 rfl rfl rfl rfl ⟨Nat.le_of_ble_eq_true rfl, Nat.le_of_ble_eq_true rfl⟩ (Nat.le_of_ble_eq_true rfl) ⟨Nat.le_of_ble_eq_true rfl, Nat.le_of_ble_eq_true rfl⟩ dX8_excess_65 (fun r14 u H locs hw hP hD hS => ?_)
  try dsimp only at hw
  have hP : va_P D vwCl [(a_S, .inr (8, [.ref a_T, .ref a_P])), (a_P, .inr (4, [.ref a_T, .ref a_P_xs, .ref a_P_ys, .ref a_P_cells, .ref a_P_lows, .ref a_P_highs, .ref a_P_states, .ref a_P_men, .ref a_P_stores, .int (nI v_P_size)])), (a_P_xs, .inl (K 0, 12, .inl f_P_xs)), (a_P_ys, .inl (K 0, 12, .inl f_P_ys)), (a_P_cells, .inl (K 0, 12, .inl f_P_cells)), (a_P_lows, .inl (K 0, 12, .inl f_P_lows)), (a_P_highs, .inl (K 0, 12, .inl f_P_highs)), (a_T, .inr (9, [.ref a_T_heights, .ref a_T_woods, .ref a_T_treesLow, .ref a_T_treesHigh, .ref a_T_worst, .ref a_T_best, .int (nI v_T_width), .int (nI v_T_height), .int v_T_bending])), (a_T_heights, .inl (K 0, 256, .inl f_T_heights)), (a_T_woods, .inl (K 0, 256, .inl f_T_woods)), (a_T_treesLow, .inl (K 0, 4, .inl f_T_treesLow)), (a_T_treesHigh, .inl (K 0, 4, .inl f_T_treesHigh))] H := hP
  have hD := uDPJ hP hD
  refine lv_pc (q := 68) rfl ?_
  refine lv_istore (lv' := [(8, .int r14), (7, .int (nI a10)), (6, .int (nI a5)), (0, .ref a_S), (1, .int (nI x0)), (2, .int (nI x1)), (3, .int (nI x2)), (4, .int (nI x3)), (5, .int x4)]) hx hb dX8_excess_68 hl (by decide) rfl (fun ls hl => ?_)
  refine lv_sipush (v := 1000) hx hb dX8_excess_70 (by decide) ?_
  refine lv_iload hx hb dX8_excess_73 (lv_at hl 0 rfl) ?_
  refine lv_imul hx hb dX8_excess_75 ?_
  refine lv_aload_n hx hb dX8_excess_76 rfl (lv_at hl 3 rfl) ?_
  refine uGet (ci := 8) (C := RX8) (T := TX8) (N := 2) (v := .ref a_T) B inlX8 hP 0 rfl rfl 0 rfl mfl_X8_9 rfl rfl dX8_excess_77 ?_
  refine lv_pc (q := 80) rfl ?_
  refine uGet (ci := 9) (C := RX9) (T := TX9) (N := 9) (v := .int v_T_bending) B inlX9 hP 7 rfl rfl 8 rfl mfl_X8_58 rfl rfl dX8_excess_80 ?_
  refine lv_iload_n hx hb dX8_excess_83 rfl (lv_at hl 6 rfl) ?_
  refine lv_imul hx hb dX8_excess_84 ?_
  refine lv_iload hx hb dX8_excess_85 (lv_at hl 7 rfl) ?_
  refine lv_iload_n hx hb dX8_excess_87 rfl (lv_at hl 6 rfl) ?_
  refine lv_isub hx hb dX8_excess_88 ?_
  refine lv_pc (q := 89) rfl ?_
  refine lv_imul hx hb dX8_excess_89 ?_
  refine lv_iadd hx hb dX8_excess_90 ?_
  refine lv_istore (lv' := [(9, .int ((1000 * r14) + ((v_T_bending * (nI x2)) * ((nI x3) - (nI x2))))), (8, .int r14), (7, .int (nI a10)), (6, .int (nI a5)), (0, .ref a_S), (1, .int (nI x0)), (2, .int (nI x1)), (3, .int (nI x2)), (4, .int (nI x3)), (5, .int x4)]) hx hb dX8_excess_91 hl (by decide) rfl (fun ls hl => ?_)
  refine lv_aload_n hx hb dX8_excess_93 rfl (lv_at hl 4 rfl) ?_
  refine uGet (ci := 8) (C := RX8) (T := TX8) (N := 2) (v := .ref a_P) B inlX8 hP 0 rfl rfl 1 rfl mfl_X8_15 rfl rfl dX8_excess_94 ?_
  refine lv_iload_n hx hb dX8_excess_97 rfl (lv_at hl 5 rfl) ?_
  refine lv_pc (q := 98) rfl ?_
  refine lv_iload hx hb dX8_excess_98 (lv_at hl 9 rfl) ?_
  refine uVi (As := [.int (nI x0), .int x4]) (rest := []) (wr := [(a_S, .inr (8, [.ref a_T, .ref a_P])), (a_P_xs, .inl (K 0, 12, .inl f_P_xs)), (a_P_ys, .inl (K 0, 12, .inl f_P_ys)), (a_T_woods, .inl (K 0, 256, .inl f_T_woods)), (a_T_treesLow, .inl (K 0, 4, .inl f_T_treesLow)), (a_T_treesHigh, .inl (K 0, 4, .inl f_T_treesHigh))]) [(a_P, .inr (4, [.ref a_T, .ref a_P_xs, .ref a_P_ys, .ref a_P_cells, .ref a_P_lows, .ref a_P_highs, .ref a_P_states, .ref a_P_men, .ref a_P_stores, .int (nI v_P_size)])), (a_T, .inr (9, [.ref a_T_heights, .ref a_T_woods, .ref a_T_treesLow, .ref a_T_treesHigh, .ref a_T_worst, .ref a_T_best, .int (nI v_T_width), .int (nI v_T_height), .int v_T_bending])), (a_T_heights, .inl (K 0, 256, .inl f_T_heights)), (a_P_cells, .inl (K 0, 12, .inl f_P_cells)), (a_P_lows, .inl (K 0, 12, .inl f_P_lows)), (a_P_highs, .inl (K 0, 12, .inl f_P_highs))] B hl.1 hP hD hS [1, 7, 8, 4, 5, 6] [0, 2, 3, 9, 10, 11] rfl rfl rfl (wX4_eyeOf l D K _ a_P v_P_size a_T v_T_width v_T_height v_T_bending a_T_heights f_T_heights a_P_cells f_P_cells a_P_lows f_P_lows a_P_highs f_P_highs a_P_xs a_P_ys a_P_states a_P_men a_P_stores a_T_woods a_T_treesLow a_T_treesHigh a_T_worst a_T_best x0 x4 (by omega) (by omega) (by omega) (by omega) (by omega) r_P_cells (by omega) hx4) wd_X4_eyeOf mml_X8_61 rfl rfl rfl rfl ⟨Nat.le_of_ble_eq_true rfl, Nat.le_of_ble_eq_true rfl⟩ (Nat.le_of_ble_eq_true rfl) ⟨Nat.le_of_ble_eq_true rfl, Nat.le_of_ble_eq_true rfl⟩ dX8_excess_100 (fun r15 u H locs hw hP hD hS => ?_)
  try dsimp only at hw
  have hP : va_P D vwCl [(a_S, .inr (8, [.ref a_T, .ref a_P])), (a_P_xs, .inl (K 0, 12, .inl f_P_xs)), (a_P_ys, .inl (K 0, 12, .inl f_P_ys)), (a_T_woods, .inl (K 0, 256, .inl f_T_woods)), (a_T_treesLow, .inl (K 0, 4, .inl f_T_treesLow)), (a_T_treesHigh, .inl (K 0, 4, .inl f_T_treesHigh)), (a_P, .inr (4, [.ref a_T, .ref a_P_xs, .ref a_P_ys, .ref a_P_cells, .ref a_P_lows, .ref a_P_highs, .ref a_P_states, .ref a_P_men, .ref a_P_stores, .int (nI v_P_size)])), (a_T, .inr (9, [.ref a_T_heights, .ref a_T_woods, .ref a_T_treesLow, .ref a_T_treesHigh, .ref a_T_worst, .ref a_T_best, .int (nI v_T_width), .int (nI v_T_height), .int v_T_bending])), (a_T_heights, .inl (K 0, 256, .inl f_T_heights)), (a_P_cells, .inl (K 0, 12, .inl f_P_cells)), (a_P_lows, .inl (K 0, 12, .inl f_P_lows)), (a_P_highs, .inl (K 0, 12, .inl f_P_highs))] H := hP
  have hD := uDPJ hP hD
  refine lv_iload hx hb dX8_excess_103 (lv_at hl 8 rfl) ?_
  refine lv_iload_n hx hb dX8_excess_105 rfl (lv_at hl 7 rfl) ?_
  refine lv_isub hx hb dX8_excess_106 ?_
  refine lv_imul hx hb dX8_excess_107 ?_
  refine lv_pc (q := 108) rfl ?_
  refine lv_aload_n hx hb dX8_excess_108 rfl (lv_at hl 4 rfl) ?_
  refine uGet (ci := 8) (C := RX8) (T := TX8) (N := 2) (v := .ref a_P) B inlX8 hP 0 rfl rfl 1 rfl mfl_X8_15 rfl rfl dX8_excess_109 ?_
  refine lv_iload_n hx hb dX8_excess_112 rfl (lv_at hl 6 rfl) ?_
  refine lv_iload hx hb dX8_excess_113 (lv_at hl 9 rfl) ?_
  refine uVi (As := [.int (nI x1), .int x4]) (rest := [.int (r15 * ((nI x3) - (nI x2)))]) (wr := [(a_S, .inr (8, [.ref a_T, .ref a_P])), (a_P_xs, .inl (K 0, 12, .inl f_P_xs)), (a_P_ys, .inl (K 0, 12, .inl f_P_ys)), (a_T_woods, .inl (K 0, 256, .inl f_T_woods)), (a_T_treesLow, .inl (K 0, 4, .inl f_T_treesLow)), (a_T_treesHigh, .inl (K 0, 4, .inl f_T_treesHigh))]) [(a_P, .inr (4, [.ref a_T, .ref a_P_xs, .ref a_P_ys, .ref a_P_cells, .ref a_P_lows, .ref a_P_highs, .ref a_P_states, .ref a_P_men, .ref a_P_stores, .int (nI v_P_size)])), (a_T, .inr (9, [.ref a_T_heights, .ref a_T_woods, .ref a_T_treesLow, .ref a_T_treesHigh, .ref a_T_worst, .ref a_T_best, .int (nI v_T_width), .int (nI v_T_height), .int v_T_bending])), (a_T_heights, .inl (K 0, 256, .inl f_T_heights)), (a_P_cells, .inl (K 0, 12, .inl f_P_cells)), (a_P_lows, .inl (K 0, 12, .inl f_P_lows)), (a_P_highs, .inl (K 0, 12, .inl f_P_highs))] B hl.1 hP hD hS [6, 7, 8, 9, 10, 11] [0, 1, 2, 3, 4, 5] rfl rfl rfl (wX4_eyeOf l D K _ a_P v_P_size a_T v_T_width v_T_height v_T_bending a_T_heights f_T_heights a_P_cells f_P_cells a_P_lows f_P_lows a_P_highs f_P_highs a_P_xs a_P_ys a_P_states a_P_men a_P_stores a_T_woods a_T_treesLow a_T_treesHigh a_T_worst a_T_best x1 x4 (by omega) (by omega) (by omega) (by omega) (by omega) r_P_cells (by omega) hx4) wd_X4_eyeOf mml_X8_61 rfl rfl rfl rfl ⟨Nat.le_of_ble_eq_true rfl, Nat.le_of_ble_eq_true rfl⟩ (Nat.le_of_ble_eq_true rfl) ⟨Nat.le_of_ble_eq_true rfl, Nat.le_of_ble_eq_true rfl⟩ dX8_excess_115 (fun r16 u H locs hw hP hD hS => ?_)
  try dsimp only at hw
  have hP : va_P D vwCl [(a_S, .inr (8, [.ref a_T, .ref a_P])), (a_P_xs, .inl (K 0, 12, .inl f_P_xs)), (a_P_ys, .inl (K 0, 12, .inl f_P_ys)), (a_T_woods, .inl (K 0, 256, .inl f_T_woods)), (a_T_treesLow, .inl (K 0, 4, .inl f_T_treesLow)), (a_T_treesHigh, .inl (K 0, 4, .inl f_T_treesHigh)), (a_P, .inr (4, [.ref a_T, .ref a_P_xs, .ref a_P_ys, .ref a_P_cells, .ref a_P_lows, .ref a_P_highs, .ref a_P_states, .ref a_P_men, .ref a_P_stores, .int (nI v_P_size)])), (a_T, .inr (9, [.ref a_T_heights, .ref a_T_woods, .ref a_T_treesLow, .ref a_T_treesHigh, .ref a_T_worst, .ref a_T_best, .int (nI v_T_width), .int (nI v_T_height), .int v_T_bending])), (a_T_heights, .inl (K 0, 256, .inl f_T_heights)), (a_P_cells, .inl (K 0, 12, .inl f_P_cells)), (a_P_lows, .inl (K 0, 12, .inl f_P_lows)), (a_P_highs, .inl (K 0, 12, .inl f_P_highs))] H := hP
  have hD := uDPJ hP hD
  refine lv_iload_n hx hb dX8_excess_118 rfl (lv_at hl 7 rfl) ?_
  refine lv_pc (q := 119) rfl ?_
  refine lv_imul hx hb dX8_excess_119 ?_
  refine lv_iadd hx hb dX8_excess_120 ?_
  refine lv_istore (lv' := [(10, .int ((r15 * ((nI x3) - (nI x2))) + (r16 * (nI x2)))), (9, .int ((1000 * r14) + ((v_T_bending * (nI x2)) * ((nI x3) - (nI x2))))), (8, .int r14), (7, .int (nI a10)), (6, .int (nI a5)), (0, .ref a_S), (1, .int (nI x0)), (2, .int (nI x1)), (3, .int (nI x2)), (4, .int (nI x3)), (5, .int x4)]) hx hb dX8_excess_121 hl (by decide) rfl (fun ls hl => ?_)
  refine lv_iload hx hb dX8_excess_123 (lv_at hl 1 rfl) ?_
  refine lv_iload hx hb dX8_excess_125 (lv_at hl 9 rfl) ?_
  refine lv_imul hx hb dX8_excess_127 ?_
  refine lv_pc (q := 128) rfl ?_
  refine lv_sipush (v := 1000) hx hb dX8_excess_128 (by decide) ?_
  refine lv_iload hx hb dX8_excess_131 (lv_at hl 0 rfl) ?_
  refine lv_imul hx hb dX8_excess_133 ?_
  refine lv_isub hx hb dX8_excess_134 ?_
  exact uRi () B trivial (uSub hP [0, 7, 8, 3, 4, 5, 6, 1, 2, 9, 10, 11] rfl) (hD.sub [0, 7, 8, 3, 4, 5, 6, 1, 2, 9, 10, 11] rfl rfl) hS dX8_excess_135
def qwX8_between_vany (x0 : Nat) (x1 : Nat) (x2 : Nat) (x3 : Nat) : Int32 → (Unit) → Prop := (fun (r : Int32) (u : Unit) => True)
def vwX8_between_vany (K : Nat → ClassId) (x0 : Nat) (x1 : Nat) (x2 : Nat) (x3 : Nat) : (Unit) → va_W := (fun (u : Unit) => [])
set_option maxHeartbeats 4000000 in
set_option maxRecDepth 100000 in
theorem wX8_between_vany (l : Launch) (D : va_G) (K : Nat → ClassId) (sz : Nat) (x0 : Nat) (x1 : Nat) (x2 : Nat) (x3 : Nat) (hx0 : x0 < 16) (hx1 : x1 < 16) (hx2 : x2 < 16) (hx3 : x3 < 16) : uMi l yX8_between cX8_between 4 (some .int) { frames := 0, cells := 0, slots := 0, locals := 0 } [.int (nI x0), .int (nI x1), .int (nI x2), .int (nI x3)] D K [] sz (qwX8_between_vany x0 x1 x2 x3) (vwX8_between_vany K x0 x1 x2 x3) := by
  refine uMet (Qc := uQi D (qwX8_between_vany x0 x1 x2 x3) (vwX8_between_vany K x0 x1 x2 x3)) (ret := (some .int)) (by decide) (Nat.le_of_ble_eq_true rfl) ?_
  intro p e s m below meth c A ls hAe hsz B hP hD hS hl
  have hx := B.1
  have hb := B.2.1
  have hl : lv_has ls 4 [(0, .int (nI x0)), (1, .int (nI x1)), (2, .int (nI x2)), (3, .int (nI x3))] := hl
  refine lv_iload_n hx hb dX8_between_0 rfl (lv_at hl 3 rfl) ?_
  refine lv_iconst (v := 1) hx hb dX8_between_1 (by decide) ?_
  refine lv_icmp_ge (tgt := 9) hx hb dX8_between_2 (by decide) (fun c1 => ?_) (fun c1 => ?_)
  · have k_1 : 1 ≤ x3 := (nI_leI (a := 1) (b := x3) (by omega) (by omega)).mp c1
    have q2 := uMul15 (a := x0) (b := x3 - x2) (by omega) (by omega)
    have q3 := uMul15 (a := x1) (b := x2) (by omega) (by omega)
    refine lv_iconst (v := 2) hx hb dX8_between_9 (by decide) ?_
    refine lv_iload_n hx hb dX8_between_10 rfl (lv_at hl 0 rfl) ?_
    refine lv_pc (q := 11) rfl ?_
    refine lv_iload_n hx hb dX8_between_11 rfl (lv_at hl 3 rfl) ?_
    refine lv_iload_n hx hb dX8_between_12 rfl (lv_at hl 2 rfl) ?_
    refine lv_isub hx hb dX8_between_13 ?_
    refine lv_imul hx hb dX8_between_14 ?_
    refine lv_iload_n hx hb dX8_between_15 rfl (lv_at hl 1 rfl) ?_
    refine lv_iload_n hx hb dX8_between_16 rfl (lv_at hl 2 rfl) ?_
    refine lv_pc (q := 17) rfl ?_
    refine lv_imul hx hb dX8_between_17 ?_
    refine lv_iadd hx hb dX8_between_18 ?_
    refine lv_imul hx hb dX8_between_19 ?_
    refine lv_iload_n hx hb dX8_between_20 rfl (lv_at hl 3 rfl) ?_
    refine lv_iadd hx hb dX8_between_21 ?_
    refine lv_iconst (v := 2) hx hb dX8_between_22 (by decide) ?_
    refine lv_pc (q := 23) rfl ?_
    refine lv_iload_n hx hb dX8_between_23 rfl (lv_at hl 3 rfl) ?_
    refine lv_imul hx hb dX8_between_24 ?_
    refine lv_fixi (y := (nI (2 * x3))) (by rw [show (2 : Int32) = nI 2 from rfl, pk_mul]) ?_
    refine lv_idiv hx hb dX8_between_25 (nI_ne0 (by omega) (by omega)) ?_
    exact uRi () B trivial (uSub hP [] rfl) (hD.sub [] rfl rfl) hS dX8_between_26
  have k_1 : ¬ 1 ≤ x3 := fun h9 => c1 ((nI_leI (a := 1) (b := x3) (by omega) (by omega)).mpr h9)
  refine lv_iload_n hx hb dX8_between_5 rfl (lv_at hl 0 rfl) ?_
  refine lv_goto (tgt := 26) hx hb dX8_between_6 (by decide) ?_
  refine lv_pc (q := 26) rfl ?_
  exact uRi () B trivial (uSub hP [] rfl) (hD.sub [] rfl rfl) hS dX8_between_26
def qwX8_numberAt (a_S : Nat) (a_T : Nat) (v_T_width : Nat) (v_T_height : Nat) (v_T_bending : Int32) (a_P : Nat) (v_P_size : Nat) (a_P_xs : Nat) (f_P_xs : Nat → Int32) (a_P_ys : Nat) (f_P_ys : Nat → Int32) (a_T_heights : Nat) (a_T_woods : Nat) (a_T_treesLow : Nat) (a_T_treesHigh : Nat) (a_T_worst : Nat) (a_T_best : Nat) (a_P_cells : Nat) (a_P_lows : Nat) (a_P_highs : Nat) (a_P_states : Nat) (a_P_men : Nat) (a_P_stores : Nat) (x0 : Nat) (x1 : Nat) (x2 : Nat) : Int32 → (Unit) → Prop := (fun (r : Int32) (u : Unit) => True)
def vwX8_numberAt (K : Nat → ClassId) (a_S : Nat) (a_T : Nat) (v_T_width : Nat) (v_T_height : Nat) (v_T_bending : Int32) (a_P : Nat) (v_P_size : Nat) (a_P_xs : Nat) (f_P_xs : Nat → Int32) (a_P_ys : Nat) (f_P_ys : Nat → Int32) (a_T_heights : Nat) (a_T_woods : Nat) (a_T_treesLow : Nat) (a_T_treesHigh : Nat) (a_T_worst : Nat) (a_T_best : Nat) (a_P_cells : Nat) (a_P_lows : Nat) (a_P_highs : Nat) (a_P_states : Nat) (a_P_men : Nat) (a_P_stores : Nat) (x0 : Nat) (x1 : Nat) (x2 : Nat) : (Unit) → va_W := (fun (u : Unit) => [(a_S, .inr (8, [.ref a_T, .ref a_P])), (a_T, .inr (9, [.ref a_T_heights, .ref a_T_woods, .ref a_T_treesLow, .ref a_T_treesHigh, .ref a_T_worst, .ref a_T_best, .int (nI v_T_width), .int (nI v_T_height), .int v_T_bending])), (a_P, .inr (4, [.ref a_T, .ref a_P_xs, .ref a_P_ys, .ref a_P_cells, .ref a_P_lows, .ref a_P_highs, .ref a_P_states, .ref a_P_men, .ref a_P_stores, .int (nI v_P_size)])), (a_P_xs, .inl (K 0, 12, .inl f_P_xs)), (a_P_ys, .inl (K 0, 12, .inl f_P_ys))])
set_option maxHeartbeats 4000000 in
set_option maxRecDepth 100000 in
theorem wX8_numberAt (l : Launch) (D : va_G) (K : Nat → ClassId) (sz : Nat) (a_S : Nat) (a_T : Nat) (v_T_width : Nat) (v_T_height : Nat) (v_T_bending : Int32) (a_P : Nat) (v_P_size : Nat) (a_P_xs : Nat) (f_P_xs : Nat → Int32) (a_P_ys : Nat) (f_P_ys : Nat → Int32) (a_T_heights : Nat) (a_T_woods : Nat) (a_T_treesLow : Nat) (a_T_treesHigh : Nat) (a_T_worst : Nat) (a_T_best : Nat) (a_P_cells : Nat) (a_P_lows : Nat) (a_P_highs : Nat) (a_P_states : Nat) (a_P_men : Nat) (a_P_stores : Nat) (x0 : Nat) (x1 : Nat) (x2 : Nat) (hv_T_width : v_T_width ≤ 16) (gv_T_width : 4 ≤ v_T_width) (hv_T_height : v_T_height ≤ 16) (gv_T_height : 4 ≤ v_T_height) (hv_P_size : v_P_size ≤ 12) (r_P_xs : uRg f_P_xs 0 15) (r_P_ys : uRg f_P_ys 0 15) (hx0 : x0 < v_P_size) (hx1 : x1 < v_P_size) (hx2 : x2 < 16) : uMi l yX8_numberAt cX8_numberAt 7 (some .int) { frames := 2, cells := 0, slots := 0, locals := 37 } [.ref a_S, .int (nI x0), .int (nI x1), .int (nI x2)] D K [(a_S, .inr (8, [.ref a_T, .ref a_P])), (a_T, .inr (9, [.ref a_T_heights, .ref a_T_woods, .ref a_T_treesLow, .ref a_T_treesHigh, .ref a_T_worst, .ref a_T_best, .int (nI v_T_width), .int (nI v_T_height), .int v_T_bending])), (a_P, .inr (4, [.ref a_T, .ref a_P_xs, .ref a_P_ys, .ref a_P_cells, .ref a_P_lows, .ref a_P_highs, .ref a_P_states, .ref a_P_men, .ref a_P_stores, .int (nI v_P_size)])), (a_P_xs, .inl (K 0, 12, .inl f_P_xs)), (a_P_ys, .inl (K 0, 12, .inl f_P_ys))] sz (qwX8_numberAt a_S a_T v_T_width v_T_height v_T_bending a_P v_P_size a_P_xs f_P_xs a_P_ys f_P_ys a_T_heights a_T_woods a_T_treesLow a_T_treesHigh a_T_worst a_T_best a_P_cells a_P_lows a_P_highs a_P_states a_P_men a_P_stores x0 x1 x2) (vwX8_numberAt K a_S a_T v_T_width v_T_height v_T_bending a_P v_P_size a_P_xs f_P_xs a_P_ys f_P_ys a_T_heights a_T_woods a_T_treesLow a_T_treesHigh a_T_worst a_T_best a_P_cells a_P_lows a_P_highs a_P_states a_P_men a_P_stores x0 x1 x2) := by
  refine uMet (Qc := uQi D (qwX8_numberAt a_S a_T v_T_width v_T_height v_T_bending a_P v_P_size a_P_xs f_P_xs a_P_ys f_P_ys a_T_heights a_T_woods a_T_treesLow a_T_treesHigh a_T_worst a_T_best a_P_cells a_P_lows a_P_highs a_P_states a_P_men a_P_stores x0 x1 x2) (vwX8_numberAt K a_S a_T v_T_width v_T_height v_T_bending a_P v_P_size a_P_xs f_P_xs a_P_ys f_P_ys a_T_heights a_T_woods a_T_treesLow a_T_treesHigh a_T_worst a_T_best a_P_cells a_P_lows a_P_highs a_P_states a_P_men a_P_stores x0 x1 x2)) (ret := (some .int)) (by decide) (Nat.le_of_ble_eq_true rfl) ?_
  intro p e s m below meth c A ls hAe hsz B hP hD hS hl
  have hx := B.1
  have hb := B.2.1
  have hl : lv_has ls 7 [(0, .ref a_S), (1, .int (nI x0)), (2, .int (nI x1)), (3, .int (nI x2))] := hl
  refine lv_aload_n hx hb dX8_numberAt_0 rfl (lv_at hl 0 rfl) ?_
  refine lv_iload_n hx hb dX8_numberAt_1 rfl (lv_at hl 1 rfl) ?_
  refine lv_iload_n hx hb dX8_numberAt_2 rfl (lv_at hl 2 rfl) ?_
  refine uVi (As := [.int (nI x0), .int (nI x1)]) (rest := []) (wr := [(a_T, .inr (9, [.ref a_T_heights, .ref a_T_woods, .ref a_T_treesLow, .ref a_T_treesHigh, .ref a_T_worst, .ref a_T_best, .int (nI v_T_width), .int (nI v_T_height), .int v_T_bending]))]) [(a_S, .inr (8, [.ref a_T, .ref a_P])), (a_P, .inr (4, [.ref a_T, .ref a_P_xs, .ref a_P_ys, .ref a_P_cells, .ref a_P_lows, .ref a_P_highs, .ref a_P_states, .ref a_P_men, .ref a_P_stores, .int (nI v_P_size)])), (a_P_xs, .inl (K 0, 12, .inl f_P_xs)), (a_P_ys, .inl (K 0, 12, .inl f_P_ys))] B hl.1 hP hD hS [0, 2, 3, 4] [1] rfl rfl rfl (wX8_span l D K _ a_S a_P v_P_size a_P_xs f_P_xs a_P_ys f_P_ys a_T a_P_cells a_P_lows a_P_highs a_P_states a_P_men a_P_stores x0 x1 (by omega) r_P_xs r_P_ys (by omega) (by omega)) wd_X8_span mml_X8_38 rfl rfl rfl rfl ⟨Nat.le_of_ble_eq_true rfl, Nat.le_of_ble_eq_true rfl⟩ (Nat.le_of_ble_eq_true rfl) ⟨Nat.le_of_ble_eq_true rfl, Nat.le_of_ble_eq_true rfl⟩ dX8_numberAt_3 (fun r1 u H locs hw hP hD hS => ?_)
  try dsimp only at hw
  have w2 := hw
  have hP : va_P D vwCl [(a_T, .inr (9, [.ref a_T_heights, .ref a_T_woods, .ref a_T_treesLow, .ref a_T_treesHigh, .ref a_T_worst, .ref a_T_best, .int (nI v_T_width), .int (nI v_T_height), .int v_T_bending])), (a_S, .inr (8, [.ref a_T, .ref a_P])), (a_P, .inr (4, [.ref a_T, .ref a_P_xs, .ref a_P_ys, .ref a_P_cells, .ref a_P_lows, .ref a_P_highs, .ref a_P_states, .ref a_P_men, .ref a_P_stores, .int (nI v_P_size)])), (a_P_xs, .inl (K 0, 12, .inl f_P_xs)), (a_P_ys, .inl (K 0, 12, .inl f_P_ys))] H := hP
  have hD := uDPJ hP hD
  obtain ⟨a3, ha3, ea3⟩ := w2
  refine lv_fixi (y := (nI a3)) ea3 ?_
  refine lv_istore (lv' := [(4, .int (nI a3)), (0, .ref a_S), (1, .int (nI x0)), (2, .int (nI x1)), (3, .int (nI x2))]) hx hb dX8_numberAt_6 hl (by decide) rfl (fun ls hl => ?_)
  refine lv_pc (q := 8) rfl ?_
  refine lv_aload_n hx hb dX8_numberAt_8 rfl (lv_at hl 1 rfl) ?_
  refine uGet (ci := 8) (C := RX8) (T := TX8) (N := 2) (v := .ref a_P) B inlX8 hP 1 rfl rfl 1 rfl mfl_X8_15 rfl rfl dX8_numberAt_9 ?_
  refine uGet (ci := 4) (C := RX4) (T := TX4) (N := 10) (v := .ref a_P_xs) B inlX4 hP 2 rfl rfl 1 rfl mfl_X8_19 rfl rfl dX8_numberAt_12 ?_
  refine lv_iload_n hx hb dX8_numberAt_15 rfl (lv_at hl 2 rfl) ?_
  refine uIald (i := (nI x0)) (j := x0) B hP 3 rfl (nI_in (by omega) (by omega)) (nI_clamp (by omega)) dX8_numberAt_16 ?_
  obtain ⟨a4, ha4, ea4⟩ := uRnat r_P_xs x0 (by decide)
  simp only [Int32.reduceToInt] at ha4
  refine lv_fixi (y := (nI a4)) ea4 ?_
  refine lv_aload_n hx hb dX8_numberAt_17 rfl (lv_at hl 1 rfl) ?_
  refine lv_pc (q := 18) rfl ?_
  refine uGet (ci := 8) (C := RX8) (T := TX8) (N := 2) (v := .ref a_P) B inlX8 hP 1 rfl rfl 1 rfl mfl_X8_15 rfl rfl dX8_numberAt_18 ?_
  refine uGet (ci := 4) (C := RX4) (T := TX4) (N := 10) (v := .ref a_P_xs) B inlX4 hP 2 rfl rfl 1 rfl mfl_X8_19 rfl rfl dX8_numberAt_21 ?_
  refine lv_iload_n hx hb dX8_numberAt_24 rfl (lv_at hl 3 rfl) ?_
  refine uIald (i := (nI x1)) (j := x1) B hP 3 rfl (nI_in (by omega) (by omega)) (nI_clamp (by omega)) dX8_numberAt_25 ?_
  obtain ⟨a5, ha5, ea5⟩ := uRnat r_P_xs x1 (by decide)
  simp only [Int32.reduceToInt] at ha5
  refine lv_fixi (y := (nI a5)) ea5 ?_
  refine lv_iload_n hx hb dX8_numberAt_26 rfl (lv_at hl 4 rfl) ?_
  refine lv_iload hx hb dX8_numberAt_27 (lv_at hl 0 rfl) ?_
  refine lv_pc (q := 29) rfl ?_
  refine uSi (As := [.int (nI a4), .int (nI a5), .int (nI x2), .int (nI a3)]) (rest := []) (wr := [(a_T, .inr (9, [.ref a_T_heights, .ref a_T_woods, .ref a_T_treesLow, .ref a_T_treesHigh, .ref a_T_worst, .ref a_T_best, .int (nI v_T_width), .int (nI v_T_height), .int v_T_bending])), (a_S, .inr (8, [.ref a_T, .ref a_P])), (a_P, .inr (4, [.ref a_T, .ref a_P_xs, .ref a_P_ys, .ref a_P_cells, .ref a_P_lows, .ref a_P_highs, .ref a_P_states, .ref a_P_men, .ref a_P_stores, .int (nI v_P_size)])), (a_P_xs, .inl (K 0, 12, .inl f_P_xs)), (a_P_ys, .inl (K 0, 12, .inl f_P_ys))]) [] B hl.1 hP hD hS [] [0, 1, 2, 3, 4] rfl rfl rfl (wX8_between_vany l D K _ a4 a5 x2 a3 (by omega) (by omega) (by omega) (by omega)) wd_X8_between mml_X8_41 rfl rfl ⟨Nat.le_of_ble_eq_true rfl, Nat.le_of_ble_eq_true rfl⟩ (Nat.le_of_ble_eq_true rfl) ⟨Nat.le_of_ble_eq_true rfl, Nat.le_of_ble_eq_true rfl⟩ dX8_numberAt_29 (fun r6 u H locs hw hP hD hS => ?_)
  try dsimp only at hw
  have hP : va_P D vwCl [(a_T, .inr (9, [.ref a_T_heights, .ref a_T_woods, .ref a_T_treesLow, .ref a_T_treesHigh, .ref a_T_worst, .ref a_T_best, .int (nI v_T_width), .int (nI v_T_height), .int v_T_bending])), (a_S, .inr (8, [.ref a_T, .ref a_P])), (a_P, .inr (4, [.ref a_T, .ref a_P_xs, .ref a_P_ys, .ref a_P_cells, .ref a_P_lows, .ref a_P_highs, .ref a_P_states, .ref a_P_men, .ref a_P_stores, .int (nI v_P_size)])), (a_P_xs, .inl (K 0, 12, .inl f_P_xs)), (a_P_ys, .inl (K 0, 12, .inl f_P_ys))] H := hP
  have hD := uDPJ hP hD
  refine lv_istore (lv' := [(5, .int r6), (4, .int (nI a3)), (0, .ref a_S), (1, .int (nI x0)), (2, .int (nI x1)), (3, .int (nI x2))]) hx hb dX8_numberAt_32 hl (by decide) rfl (fun ls hl => ?_)
  refine lv_aload_n hx hb dX8_numberAt_34 rfl (lv_at hl 2 rfl) ?_
  refine uGet (ci := 8) (C := RX8) (T := TX8) (N := 2) (v := .ref a_P) B inlX8 hP 1 rfl rfl 1 rfl mfl_X8_15 rfl rfl dX8_numberAt_35 ?_
  refine uGet (ci := 4) (C := RX4) (T := TX4) (N := 10) (v := .ref a_P_ys) B inlX4 hP 2 rfl rfl 2 rfl mfl_X8_31 rfl rfl dX8_numberAt_38 ?_
  refine lv_iload_n hx hb dX8_numberAt_41 rfl (lv_at hl 3 rfl) ?_
  refine lv_pc (q := 42) rfl ?_
  refine uIald (i := (nI x0)) (j := x0) B hP 4 rfl (nI_in (by omega) (by omega)) (nI_clamp (by omega)) dX8_numberAt_42 ?_
  obtain ⟨a7, ha7, ea7⟩ := uRnat r_P_ys x0 (by decide)
  simp only [Int32.reduceToInt] at ha7
  refine lv_fixi (y := (nI a7)) ea7 ?_
  refine lv_aload_n hx hb dX8_numberAt_43 rfl (lv_at hl 2 rfl) ?_
  refine uGet (ci := 8) (C := RX8) (T := TX8) (N := 2) (v := .ref a_P) B inlX8 hP 1 rfl rfl 1 rfl mfl_X8_15 rfl rfl dX8_numberAt_44 ?_
  refine uGet (ci := 4) (C := RX4) (T := TX4) (N := 10) (v := .ref a_P_ys) B inlX4 hP 2 rfl rfl 2 rfl mfl_X8_31 rfl rfl dX8_numberAt_47 ?_
  refine lv_iload_n hx hb dX8_numberAt_50 rfl (lv_at hl 4 rfl) ?_
  refine uIald (i := (nI x1)) (j := x1) B hP 4 rfl (nI_in (by omega) (by omega)) (nI_clamp (by omega)) dX8_numberAt_51 ?_
  obtain ⟨a8, ha8, ea8⟩ := uRnat r_P_ys x1 (by decide)
  simp only [Int32.reduceToInt] at ha8
  refine lv_fixi (y := (nI a8)) ea8 ?_
  refine lv_pc (q := 52) rfl ?_
  refine lv_iload_n hx hb dX8_numberAt_52 rfl (lv_at hl 5 rfl) ?_
  refine lv_iload hx hb dX8_numberAt_53 (lv_at hl 1 rfl) ?_
  refine uSi (As := [.int (nI a7), .int (nI a8), .int (nI x2), .int (nI a3)]) (rest := []) (wr := [(a_T, .inr (9, [.ref a_T_heights, .ref a_T_woods, .ref a_T_treesLow, .ref a_T_treesHigh, .ref a_T_worst, .ref a_T_best, .int (nI v_T_width), .int (nI v_T_height), .int v_T_bending])), (a_S, .inr (8, [.ref a_T, .ref a_P])), (a_P, .inr (4, [.ref a_T, .ref a_P_xs, .ref a_P_ys, .ref a_P_cells, .ref a_P_lows, .ref a_P_highs, .ref a_P_states, .ref a_P_men, .ref a_P_stores, .int (nI v_P_size)])), (a_P_xs, .inl (K 0, 12, .inl f_P_xs)), (a_P_ys, .inl (K 0, 12, .inl f_P_ys))]) [] B hl.1 hP hD hS [] [0, 1, 2, 3, 4] rfl rfl rfl (wX8_between_vany l D K _ a7 a8 x2 a3 (by omega) (by omega) (by omega) (by omega)) wd_X8_between mml_X8_41 rfl rfl ⟨Nat.le_of_ble_eq_true rfl, Nat.le_of_ble_eq_true rfl⟩ (Nat.le_of_ble_eq_true rfl) ⟨Nat.le_of_ble_eq_true rfl, Nat.le_of_ble_eq_true rfl⟩ dX8_numberAt_55 (fun r9 u H locs hw hP hD hS => ?_)
  try dsimp only at hw
  have hP : va_P D vwCl [(a_T, .inr (9, [.ref a_T_heights, .ref a_T_woods, .ref a_T_treesLow, .ref a_T_treesHigh, .ref a_T_worst, .ref a_T_best, .int (nI v_T_width), .int (nI v_T_height), .int v_T_bending])), (a_S, .inr (8, [.ref a_T, .ref a_P])), (a_P, .inr (4, [.ref a_T, .ref a_P_xs, .ref a_P_ys, .ref a_P_cells, .ref a_P_lows, .ref a_P_highs, .ref a_P_states, .ref a_P_men, .ref a_P_stores, .int (nI v_P_size)])), (a_P_xs, .inl (K 0, 12, .inl f_P_xs)), (a_P_ys, .inl (K 0, 12, .inl f_P_ys))] H := hP
  have hD := uDPJ hP hD
  refine lv_istore (lv' := [(6, .int r9), (5, .int r6), (4, .int (nI a3)), (0, .ref a_S), (1, .int (nI x0)), (2, .int (nI x1)), (3, .int (nI x2))]) hx hb dX8_numberAt_58 hl (by decide) rfl (fun ls hl => ?_)
  refine lv_aload_n hx hb dX8_numberAt_60 rfl (lv_at hl 3 rfl) ?_
  refine uGet (ci := 8) (C := RX8) (T := TX8) (N := 2) (v := .ref a_T) B inlX8 hP 1 rfl rfl 0 rfl mfl_X8_9 rfl rfl dX8_numberAt_61 ?_
  refine lv_pc (q := 64) rfl ?_
  refine uGet (ci := 9) (C := RX9) (T := TX9) (N := 9) (v := .int (nI v_T_width)) B inlX9 hP 0 rfl rfl 6 rfl mfl_X8_45 rfl rfl dX8_numberAt_64 ?_
  refine lv_iload hx hb dX8_numberAt_67 (lv_at hl 0 rfl) ?_
  refine lv_imul hx hb dX8_numberAt_69 ?_
  refine lv_iload hx hb dX8_numberAt_70 (lv_at hl 1 rfl) ?_
  refine lv_iadd hx hb dX8_numberAt_72 ?_
  exact uRi () B trivial (uSub hP [1, 0, 2, 3, 4] rfl) (hD.sub [1, 0, 2, 3, 4] rfl rfl) hS dX8_numberAt_73
def qwX8_firstShut (a_S : Nat) (a_T : Nat) (v_T_width : Nat) (v_T_height : Nat) (v_T_bending : Int32) (a_T_heights : Nat) (f_T_heights : Nat → Int32) (a_T_woods : Nat) (f_T_woods : Nat → Int32) (a_T_treesLow : Nat) (f_T_treesLow : Nat → Int32) (a_T_treesHigh : Nat) (f_T_treesHigh : Nat → Int32) (a_P : Nat) (v_P_size : Nat) (a_P_xs : Nat) (f_P_xs : Nat → Int32) (a_P_ys : Nat) (f_P_ys : Nat → Int32) (a_P_cells : Nat) (f_P_cells : Nat → Int32) (a_P_lows : Nat) (f_P_lows : Nat → Int32) (a_P_highs : Nat) (f_P_highs : Nat → Int32) (a_T_worst : Nat) (a_T_best : Nat) (a_P_states : Nat) (a_P_men : Nat) (a_P_stores : Nat) (x0 : Nat) (x1 : Nat) (x2 : Int32) : Int32 → (Unit) → Prop := (fun (r : Int32) (u : Unit) => (∃ a : Nat, a ≤ 15 ∧ r = nI a))
def vwX8_firstShut (K : Nat → ClassId) (a_S : Nat) (a_T : Nat) (v_T_width : Nat) (v_T_height : Nat) (v_T_bending : Int32) (a_T_heights : Nat) (f_T_heights : Nat → Int32) (a_T_woods : Nat) (f_T_woods : Nat → Int32) (a_T_treesLow : Nat) (f_T_treesLow : Nat → Int32) (a_T_treesHigh : Nat) (f_T_treesHigh : Nat → Int32) (a_P : Nat) (v_P_size : Nat) (a_P_xs : Nat) (f_P_xs : Nat → Int32) (a_P_ys : Nat) (f_P_ys : Nat → Int32) (a_P_cells : Nat) (f_P_cells : Nat → Int32) (a_P_lows : Nat) (f_P_lows : Nat → Int32) (a_P_highs : Nat) (f_P_highs : Nat → Int32) (a_T_worst : Nat) (a_T_best : Nat) (a_P_states : Nat) (a_P_men : Nat) (a_P_stores : Nat) (x0 : Nat) (x1 : Nat) (x2 : Int32) : (Unit) → va_W := (fun (u : Unit) => [(a_S, .inr (8, [.ref a_T, .ref a_P])), (a_T, .inr (9, [.ref a_T_heights, .ref a_T_woods, .ref a_T_treesLow, .ref a_T_treesHigh, .ref a_T_worst, .ref a_T_best, .int (nI v_T_width), .int (nI v_T_height), .int v_T_bending])), (a_T_heights, .inl (K 0, 256, .inl f_T_heights)), (a_T_woods, .inl (K 0, 256, .inl f_T_woods)), (a_T_treesLow, .inl (K 0, 4, .inl f_T_treesLow)), (a_T_treesHigh, .inl (K 0, 4, .inl f_T_treesHigh)), (a_P, .inr (4, [.ref a_T, .ref a_P_xs, .ref a_P_ys, .ref a_P_cells, .ref a_P_lows, .ref a_P_highs, .ref a_P_states, .ref a_P_men, .ref a_P_stores, .int (nI v_P_size)])), (a_P_xs, .inl (K 0, 12, .inl f_P_xs)), (a_P_ys, .inl (K 0, 12, .inl f_P_ys)), (a_P_cells, .inl (K 0, 12, .inl f_P_cells)), (a_P_lows, .inl (K 0, 12, .inl f_P_lows)), (a_P_highs, .inl (K 0, 12, .inl f_P_highs))])
set_option maxHeartbeats 4000000 in
set_option maxRecDepth 100000 in
theorem wX8_firstShut (l : Launch) (D : va_G) (K : Nat → ClassId) (sz : Nat) (a_S : Nat) (a_T : Nat) (v_T_width : Nat) (v_T_height : Nat) (v_T_bending : Int32) (a_T_heights : Nat) (f_T_heights : Nat → Int32) (a_T_woods : Nat) (f_T_woods : Nat → Int32) (a_T_treesLow : Nat) (f_T_treesLow : Nat → Int32) (a_T_treesHigh : Nat) (f_T_treesHigh : Nat → Int32) (a_P : Nat) (v_P_size : Nat) (a_P_xs : Nat) (f_P_xs : Nat → Int32) (a_P_ys : Nat) (f_P_ys : Nat → Int32) (a_P_cells : Nat) (f_P_cells : Nat → Int32) (a_P_lows : Nat) (f_P_lows : Nat → Int32) (a_P_highs : Nat) (f_P_highs : Nat → Int32) (a_T_worst : Nat) (a_T_best : Nat) (a_P_states : Nat) (a_P_men : Nat) (a_P_stores : Nat) (x0 : Nat) (x1 : Nat) (x2 : Int32) (hv_T_width : v_T_width ≤ 16) (gv_T_width : 4 ≤ v_T_width) (hv_T_height : v_T_height ≤ 16) (gv_T_height : 4 ≤ v_T_height) (r_T_woods : uRg f_T_woods 0 3) (hv_P_size : v_P_size ≤ 12) (r_P_xs : uRg f_P_xs 0 15) (r_P_ys : uRg f_P_ys 0 15) (r_P_cells : uRg f_P_cells 0 255) (hx0 : x0 < v_P_size) (hx1 : x1 < v_P_size) (hx2 : x2 = 0 ∨ x2 = 1) : uMi l yX8_firstShut cX8_firstShut 6 (some .int) { frames := 2, cells := 0, slots := 0, locals := 53 } [.ref a_S, .int (nI x0), .int (nI x1), .int x2] D K [(a_S, .inr (8, [.ref a_T, .ref a_P])), (a_T, .inr (9, [.ref a_T_heights, .ref a_T_woods, .ref a_T_treesLow, .ref a_T_treesHigh, .ref a_T_worst, .ref a_T_best, .int (nI v_T_width), .int (nI v_T_height), .int v_T_bending])), (a_T_heights, .inl (K 0, 256, .inl f_T_heights)), (a_T_woods, .inl (K 0, 256, .inl f_T_woods)), (a_T_treesLow, .inl (K 0, 4, .inl f_T_treesLow)), (a_T_treesHigh, .inl (K 0, 4, .inl f_T_treesHigh)), (a_P, .inr (4, [.ref a_T, .ref a_P_xs, .ref a_P_ys, .ref a_P_cells, .ref a_P_lows, .ref a_P_highs, .ref a_P_states, .ref a_P_men, .ref a_P_stores, .int (nI v_P_size)])), (a_P_xs, .inl (K 0, 12, .inl f_P_xs)), (a_P_ys, .inl (K 0, 12, .inl f_P_ys)), (a_P_cells, .inl (K 0, 12, .inl f_P_cells)), (a_P_lows, .inl (K 0, 12, .inl f_P_lows)), (a_P_highs, .inl (K 0, 12, .inl f_P_highs))] sz (qwX8_firstShut a_S a_T v_T_width v_T_height v_T_bending a_T_heights f_T_heights a_T_woods f_T_woods a_T_treesLow f_T_treesLow a_T_treesHigh f_T_treesHigh a_P v_P_size a_P_xs f_P_xs a_P_ys f_P_ys a_P_cells f_P_cells a_P_lows f_P_lows a_P_highs f_P_highs a_T_worst a_T_best a_P_states a_P_men a_P_stores x0 x1 x2) (vwX8_firstShut K a_S a_T v_T_width v_T_height v_T_bending a_T_heights f_T_heights a_T_woods f_T_woods a_T_treesLow f_T_treesLow a_T_treesHigh f_T_treesHigh a_P v_P_size a_P_xs f_P_xs a_P_ys f_P_ys a_P_cells f_P_cells a_P_lows f_P_lows a_P_highs f_P_highs a_T_worst a_T_best a_P_states a_P_men a_P_stores x0 x1 x2) := by
  refine uMet (Qc := uQi D (qwX8_firstShut a_S a_T v_T_width v_T_height v_T_bending a_T_heights f_T_heights a_T_woods f_T_woods a_T_treesLow f_T_treesLow a_T_treesHigh f_T_treesHigh a_P v_P_size a_P_xs f_P_xs a_P_ys f_P_ys a_P_cells f_P_cells a_P_lows f_P_lows a_P_highs f_P_highs a_T_worst a_T_best a_P_states a_P_men a_P_stores x0 x1 x2) (vwX8_firstShut K a_S a_T v_T_width v_T_height v_T_bending a_T_heights f_T_heights a_T_woods f_T_woods a_T_treesLow f_T_treesLow a_T_treesHigh f_T_treesHigh a_P v_P_size a_P_xs f_P_xs a_P_ys f_P_ys a_P_cells f_P_cells a_P_lows f_P_lows a_P_highs f_P_highs a_T_worst a_T_best a_P_states a_P_men a_P_stores x0 x1 x2)) (ret := (some .int)) (by decide) (Nat.le_of_ble_eq_true rfl) ?_
  intro p e s m below meth c A ls hAe hsz B hP hD hS hl
  have hx := B.1
  have hb := B.2.1
  have hl : lv_has ls 6 [(0, .ref a_S), (1, .int (nI x0)), (2, .int (nI x1)), (3, .int x2)] := hl
  refine lv_aload_n hx hb dX8_firstShut_0 rfl (lv_at hl 0 rfl) ?_
  refine lv_iload_n hx hb dX8_firstShut_1 rfl (lv_at hl 1 rfl) ?_
  refine lv_iload_n hx hb dX8_firstShut_2 rfl (lv_at hl 2 rfl) ?_
  refine uVi (As := [.int (nI x0), .int (nI x1)]) (rest := []) (wr := [(a_T, .inr (9, [.ref a_T_heights, .ref a_T_woods, .ref a_T_treesLow, .ref a_T_treesHigh, .ref a_T_worst, .ref a_T_best, .int (nI v_T_width), .int (nI v_T_height), .int v_T_bending])), (a_T_heights, .inl (K 0, 256, .inl f_T_heights)), (a_T_woods, .inl (K 0, 256, .inl f_T_woods)), (a_T_treesLow, .inl (K 0, 4, .inl f_T_treesLow)), (a_T_treesHigh, .inl (K 0, 4, .inl f_T_treesHigh)), (a_P_cells, .inl (K 0, 12, .inl f_P_cells)), (a_P_lows, .inl (K 0, 12, .inl f_P_lows)), (a_P_highs, .inl (K 0, 12, .inl f_P_highs))]) [(a_S, .inr (8, [.ref a_T, .ref a_P])), (a_P, .inr (4, [.ref a_T, .ref a_P_xs, .ref a_P_ys, .ref a_P_cells, .ref a_P_lows, .ref a_P_highs, .ref a_P_states, .ref a_P_men, .ref a_P_stores, .int (nI v_P_size)])), (a_P_xs, .inl (K 0, 12, .inl f_P_xs)), (a_P_ys, .inl (K 0, 12, .inl f_P_ys))] B hl.1 hP hD hS [0, 6, 7, 8] [1, 2, 3, 4, 5, 9, 10, 11] rfl rfl rfl (wX8_span l D K _ a_S a_P v_P_size a_P_xs f_P_xs a_P_ys f_P_ys a_T a_P_cells a_P_lows a_P_highs a_P_states a_P_men a_P_stores x0 x1 (by omega) r_P_xs r_P_ys (by omega) (by omega)) wd_X8_span mml_X8_38 rfl rfl rfl rfl ⟨Nat.le_of_ble_eq_true rfl, Nat.le_of_ble_eq_true rfl⟩ (Nat.le_of_ble_eq_true rfl) ⟨Nat.le_of_ble_eq_true rfl, Nat.le_of_ble_eq_true rfl⟩ dX8_firstShut_3 (fun r1 u H locs hw hP hD hS => ?_)
  try dsimp only at hw
  have w2 := hw
  have hP : va_P D vwCl [(a_T, .inr (9, [.ref a_T_heights, .ref a_T_woods, .ref a_T_treesLow, .ref a_T_treesHigh, .ref a_T_worst, .ref a_T_best, .int (nI v_T_width), .int (nI v_T_height), .int v_T_bending])), (a_T_heights, .inl (K 0, 256, .inl f_T_heights)), (a_T_woods, .inl (K 0, 256, .inl f_T_woods)), (a_T_treesLow, .inl (K 0, 4, .inl f_T_treesLow)), (a_T_treesHigh, .inl (K 0, 4, .inl f_T_treesHigh)), (a_P_cells, .inl (K 0, 12, .inl f_P_cells)), (a_P_lows, .inl (K 0, 12, .inl f_P_lows)), (a_P_highs, .inl (K 0, 12, .inl f_P_highs)), (a_S, .inr (8, [.ref a_T, .ref a_P])), (a_P, .inr (4, [.ref a_T, .ref a_P_xs, .ref a_P_ys, .ref a_P_cells, .ref a_P_lows, .ref a_P_highs, .ref a_P_states, .ref a_P_men, .ref a_P_stores, .int (nI v_P_size)])), (a_P_xs, .inl (K 0, 12, .inl f_P_xs)), (a_P_ys, .inl (K 0, 12, .inl f_P_ys))] H := hP
  have hD := uDPJ hP hD
  obtain ⟨a3, ha3, ea3⟩ := w2
  refine lv_fixi (y := (nI a3)) ea3 ?_
  refine lv_istore (lv' := [(4, .int (nI a3)), (0, .ref a_S), (1, .int (nI x0)), (2, .int (nI x1)), (3, .int x2)]) hx hb dX8_firstShut_6 hl (by decide) rfl (fun ls hl => ?_)
  refine lv_pc (q := 8) rfl ?_
  refine lv_iconst (v := 1) hx hb dX8_firstShut_8 (by decide) ?_
  refine lv_istore (lv' := [(5, .int 1), (4, .int (nI a3)), (0, .ref a_S), (1, .int (nI x0)), (2, .int (nI x1)), (3, .int x2)]) hx hb dX8_firstShut_9 hl (by decide) rfl (fun ls hl => ?_)
  have L6 : ∀ (n9 : Nat) (j4 : Nat), (j4 ≤ 16) → 16 - j4 < n9 → ∀ (H : Heap) (locs : List Loc) (ls : Array Slot), va_P D vwCl [(a_T, .inr (9, [.ref a_T_heights, .ref a_T_woods, .ref a_T_treesLow, .ref a_T_treesHigh, .ref a_T_worst, .ref a_T_best, .int (nI v_T_width), .int (nI v_T_height), .int v_T_bending])), (a_T_heights, .inl (K 0, 256, .inl f_T_heights)), (a_T_woods, .inl (K 0, 256, .inl f_T_woods)), (a_T_treesLow, .inl (K 0, 4, .inl f_T_treesLow)), (a_T_treesHigh, .inl (K 0, 4, .inl f_T_treesHigh)), (a_P_cells, .inl (K 0, 12, .inl f_P_cells)), (a_P_lows, .inl (K 0, 12, .inl f_P_lows)), (a_P_highs, .inl (K 0, 12, .inl f_P_highs)), (a_S, .inr (8, [.ref a_T, .ref a_P])), (a_P, .inr (4, [.ref a_T, .ref a_P_xs, .ref a_P_ys, .ref a_P_cells, .ref a_P_lows, .ref a_P_highs, .ref a_P_states, .ref a_P_men, .ref a_P_stores, .int (nI v_P_size)])), (a_P_xs, .inl (K 0, 12, .inl f_P_xs)), (a_P_ys, .inl (K 0, 12, .inl f_P_ys))] H → va_D A [(a_T, .inr (9, [.ref a_T_heights, .ref a_T_woods, .ref a_T_treesLow, .ref a_T_treesHigh, .ref a_T_worst, .ref a_T_best, .int (nI v_T_width), .int (nI v_T_height), .int v_T_bending])), (a_T_heights, .inl (K 0, 256, .inl f_T_heights)), (a_T_woods, .inl (K 0, 256, .inl f_T_woods)), (a_T_treesLow, .inl (K 0, 4, .inl f_T_treesLow)), (a_T_treesHigh, .inl (K 0, 4, .inl f_T_treesHigh)), (a_P_cells, .inl (K 0, 12, .inl f_P_cells)), (a_P_lows, .inl (K 0, 12, .inl f_P_lows)), (a_P_highs, .inl (K 0, 12, .inl f_P_highs)), (a_S, .inr (8, [.ref a_T, .ref a_P])), (a_P, .inr (4, [.ref a_T, .ref a_P_xs, .ref a_P_ys, .ref a_P_cells, .ref a_P_lows, .ref a_P_highs, .ref a_P_states, .ref a_P_men, .ref a_P_stores, .int (nI v_P_size)])), (a_P_xs, .inl (K 0, 12, .inl f_P_xs)), (a_P_ys, .inl (K 0, 12, .inl f_P_ys))] → va_S A s.heap H locs → lv_has ls 6 [(5, .int (nI j4)), (4, .int (nI a3)), (0, .ref a_S), (1, .int (nI x0)), (2, .int (nI x1)), (3, .int x2)] → W p l e { frames := 2, cells := 0, slots := 0, locals := 53 } s m ([.ref a_S, .int (nI x0), .int (nI x1), .int x2] : List Value).toArray below meth c H locs 0 0 (MQ below (uQi D (qwX8_firstShut a_S a_T v_T_width v_T_height v_T_bending a_T_heights f_T_heights a_T_woods f_T_woods a_T_treesLow f_T_treesLow a_T_treesHigh f_T_treesHigh a_P v_P_size a_P_xs f_P_xs a_P_ys f_P_ys a_P_cells f_P_cells a_P_lows f_P_lows a_P_highs f_P_highs a_T_worst a_T_best a_P_states a_P_men a_P_stores x0 x1 x2) (vwX8_firstShut K a_S a_T v_T_width v_T_height v_T_bending a_T_heights f_T_heights a_T_woods f_T_woods a_T_treesLow f_T_treesLow a_T_treesHigh f_T_treesHigh a_P v_P_size a_P_xs f_P_xs a_P_ys f_P_ys a_P_cells f_P_cells a_P_lows f_P_lows a_P_highs f_P_highs a_T_worst a_T_best a_P_states a_P_men a_P_stores x0 x1 x2) A) ([.ref a_S, .int (nI x0), .int (nI x1), .int x2] : List Value).toArray s 0 0 A) (F0 m 11 ls []) := by
    intro n9
    induction n9 with
    | zero => intros; exact absurd ‹_ < 0› (Nat.not_lt_zero _)
    | succ n11_ ih11 =>
      intro j4 hj4 hm11 H locs ls hP hD hS hl
      refine lv_iload hx hb dX8_firstShut_11 (lv_at hl 0 rfl) ?_
      refine lv_iload hx hb dX8_firstShut_13 (lv_at hl 1 rfl) ?_
      refine lv_icmp_ge (tgt := 41) hx hb dX8_firstShut_15 (by decide) (fun c7 => ?_) (fun c7 => ?_)
      · have k_7 : a3 ≤ j4 := (nI_leI (a := a3) (b := j4) (by omega) (by omega)).mp c7
        refine lv_iconst (v := 0) hx hb dX8_firstShut_41 (by decide) ?_
        refine lv_pc (q := 42) rfl ?_
        exact uRi () B ⟨0, by omega, rfl⟩ (uSub hP [8, 0, 1, 2, 3, 4, 9, 10, 11, 5, 6, 7] rfl) (hD.sub [8, 0, 1, 2, 3, 4, 9, 10, 11, 5, 6, 7] rfl rfl) hS dX8_firstShut_42
      have k_7 : ¬ a3 ≤ j4 := fun h9 => c7 ((nI_leI (a := a3) (b := j4) (by omega) (by omega)).mpr h9)
      refine lv_aload_n hx hb dX8_firstShut_18 rfl (lv_at hl 2 rfl) ?_
      refine lv_pc (q := 19) rfl ?_
      refine lv_iload_n hx hb dX8_firstShut_19 rfl (lv_at hl 3 rfl) ?_
      refine lv_iload_n hx hb dX8_firstShut_20 rfl (lv_at hl 4 rfl) ?_
      refine lv_iload hx hb dX8_firstShut_21 (lv_at hl 0 rfl) ?_
      refine lv_iload hx hb dX8_firstShut_23 (lv_at hl 1 rfl) ?_
      refine lv_iload_n hx hb dX8_firstShut_25 rfl (lv_at hl 5 rfl) ?_
      refine uViJ (As := [.int (nI x0), .int (nI x1), .int (nI j4), .int (nI a3), .int x2]) (rest := []) (wr := []) (wX8_excess l D K _ a_S a_T v_T_width v_T_height v_T_bending a_T_heights f_T_heights a_T_woods f_T_woods a_T_treesLow f_T_treesLow a_T_treesHigh f_T_treesHigh a_P v_P_size a_P_xs f_P_xs a_P_ys f_P_ys a_P_cells f_P_cells a_P_lows f_P_lows a_P_highs f_P_highs a_T_worst a_T_best a_P_states a_P_men a_P_stores x0 x1 j4 a3 x2 (by omega) (by omega) (by omega) (by omega) r_T_woods (by omega) r_P_xs r_P_ys r_P_cells (by omega) (by omega) (by omega) (by omega) hx2) B hl.1 hP hD hS [8, 0, 1, 2, 3, 4, 9, 10, 11, 5, 6, 7] [] rfl rfl rfl wd_X8_excess mml_X8_64 rfl rfl rfl rfl ⟨Nat.le_of_ble_eq_true rfl, Nat.le_of_ble_eq_true rfl⟩ (Nat.le_of_ble_eq_true rfl) ⟨Nat.le_of_ble_eq_true rfl, Nat.le_of_ble_eq_true rfl⟩ dX8_firstShut_26 (fun r8 u H locs hw hP hD hS => ?_)
      try dsimp only at hw
      have hP : va_P D vwCl [(a_S, .inr (8, [.ref a_T, .ref a_P])), (a_T, .inr (9, [.ref a_T_heights, .ref a_T_woods, .ref a_T_treesLow, .ref a_T_treesHigh, .ref a_T_worst, .ref a_T_best, .int (nI v_T_width), .int (nI v_T_height), .int v_T_bending])), (a_T_heights, .inl (K 0, 256, .inl f_T_heights)), (a_T_woods, .inl (K 0, 256, .inl f_T_woods)), (a_T_treesLow, .inl (K 0, 4, .inl f_T_treesLow)), (a_T_treesHigh, .inl (K 0, 4, .inl f_T_treesHigh)), (a_P, .inr (4, [.ref a_T, .ref a_P_xs, .ref a_P_ys, .ref a_P_cells, .ref a_P_lows, .ref a_P_highs, .ref a_P_states, .ref a_P_men, .ref a_P_stores, .int (nI v_P_size)])), (a_P_xs, .inl (K 0, 12, .inl f_P_xs)), (a_P_ys, .inl (K 0, 12, .inl f_P_ys)), (a_P_cells, .inl (K 0, 12, .inl f_P_cells)), (a_P_lows, .inl (K 0, 12, .inl f_P_lows)), (a_P_highs, .inl (K 0, 12, .inl f_P_highs))] H := hP
      have hD := uDPJ hP hD
      refine lv_pc (q := 29) rfl ?_
      refine lv_if_le (tgt := 35) hx hb dX8_firstShut_29 (by decide) (fun c9 => ?_) (fun c9 => ?_)
      · refine lv_iinc (v := nI (j4 + 1)) (lv' := [(5, .int (nI (j4 + 1))), (4, .int (nI a3)), (0, .ref a_S), (1, .int (nI x0)), (2, .int (nI x1)), (3, .int x2)]) hx hb dX8_firstShut_35 hl (k := 0) rfl (nI_1 _) (by decide) rfl (fun ls hl => ?_)
        refine lv_goto (tgt := 11) hx hb dX8_firstShut_38 (by decide) ?_
        refine lv_pc (q := 11) rfl ?_
        refine W.widen (k := 0) (n := 0) (Nat.le_of_ble_eq_true rfl) (Nat.le_of_ble_eq_true rfl) ?_
        exact ih11 (j4 + 1) (by omega) (by omega) _ _ _ (uSub hP [1, 2, 3, 4, 5, 9, 10, 11, 0, 6, 7, 8] rfl) (hD.sub [1, 2, 3, 4, 5, 9, 10, 11, 0, 6, 7, 8] rfl rfl) hS (lv_sub hl [0, 1, 2, 3, 4, 5] rfl)
      refine lv_iload hx hb dX8_firstShut_32 (lv_at hl 0 rfl) ?_
      exact uRi () B ⟨j4, by omega, rfl⟩ (uSub hP [0, 1, 2, 3, 4, 5, 6, 7, 8, 9, 10, 11] rfl) (hD.sub [0, 1, 2, 3, 4, 5, 6, 7, 8, 9, 10, 11] rfl rfl) hS dX8_firstShut_34
  refine lv_pc (q := 11) rfl ?_
  refine W.widen (k := 0) (n := 0) (Nat.le_of_ble_eq_true rfl) (Nat.le_of_ble_eq_true rfl) ?_
  exact L6 ((16 - 1) + 1) 1 (by omega) (Nat.lt_succ_self _) _ _ _ hP hD hS hl
def qwX8_metresLacking (a_S : Nat) (a_T : Nat) (v_T_width : Nat) (v_T_height : Nat) (v_T_bending : Int32) (a_T_heights : Nat) (f_T_heights : Nat → Int32) (a_T_woods : Nat) (f_T_woods : Nat → Int32) (a_T_treesLow : Nat) (f_T_treesLow : Nat → Int32) (a_T_treesHigh : Nat) (f_T_treesHigh : Nat → Int32) (a_P : Nat) (v_P_size : Nat) (a_P_xs : Nat) (f_P_xs : Nat → Int32) (a_P_ys : Nat) (f_P_ys : Nat → Int32) (a_P_cells : Nat) (f_P_cells : Nat → Int32) (a_P_lows : Nat) (f_P_lows : Nat → Int32) (a_P_highs : Nat) (f_P_highs : Nat → Int32) (a_T_worst : Nat) (a_T_best : Nat) (a_P_states : Nat) (a_P_men : Nat) (a_P_stores : Nat) (x0 : Nat) (x1 : Nat) : Int32 → (Unit) → Prop := (fun (r : Int32) (u : Unit) => True)
def vwX8_metresLacking (K : Nat → ClassId) (a_S : Nat) (a_T : Nat) (v_T_width : Nat) (v_T_height : Nat) (v_T_bending : Int32) (a_T_heights : Nat) (f_T_heights : Nat → Int32) (a_T_woods : Nat) (f_T_woods : Nat → Int32) (a_T_treesLow : Nat) (f_T_treesLow : Nat → Int32) (a_T_treesHigh : Nat) (f_T_treesHigh : Nat → Int32) (a_P : Nat) (v_P_size : Nat) (a_P_xs : Nat) (f_P_xs : Nat → Int32) (a_P_ys : Nat) (f_P_ys : Nat → Int32) (a_P_cells : Nat) (f_P_cells : Nat → Int32) (a_P_lows : Nat) (f_P_lows : Nat → Int32) (a_P_highs : Nat) (f_P_highs : Nat → Int32) (a_T_worst : Nat) (a_T_best : Nat) (a_P_states : Nat) (a_P_men : Nat) (a_P_stores : Nat) (x0 : Nat) (x1 : Nat) : (Unit) → va_W := (fun (u : Unit) => [(a_S, .inr (8, [.ref a_T, .ref a_P])), (a_T, .inr (9, [.ref a_T_heights, .ref a_T_woods, .ref a_T_treesLow, .ref a_T_treesHigh, .ref a_T_worst, .ref a_T_best, .int (nI v_T_width), .int (nI v_T_height), .int v_T_bending])), (a_T_heights, .inl (K 0, 256, .inl f_T_heights)), (a_T_woods, .inl (K 0, 256, .inl f_T_woods)), (a_T_treesLow, .inl (K 0, 4, .inl f_T_treesLow)), (a_T_treesHigh, .inl (K 0, 4, .inl f_T_treesHigh)), (a_P, .inr (4, [.ref a_T, .ref a_P_xs, .ref a_P_ys, .ref a_P_cells, .ref a_P_lows, .ref a_P_highs, .ref a_P_states, .ref a_P_men, .ref a_P_stores, .int (nI v_P_size)])), (a_P_xs, .inl (K 0, 12, .inl f_P_xs)), (a_P_ys, .inl (K 0, 12, .inl f_P_ys)), (a_P_cells, .inl (K 0, 12, .inl f_P_cells)), (a_P_lows, .inl (K 0, 12, .inl f_P_lows)), (a_P_highs, .inl (K 0, 12, .inl f_P_highs))])
set_option maxHeartbeats 4000000 in
set_option maxRecDepth 100000 in
theorem wX8_metresLacking (l : Launch) (D : va_G) (K : Nat → ClassId) (sz : Nat) (a_S : Nat) (a_T : Nat) (v_T_width : Nat) (v_T_height : Nat) (v_T_bending : Int32) (a_T_heights : Nat) (f_T_heights : Nat → Int32) (a_T_woods : Nat) (f_T_woods : Nat → Int32) (a_T_treesLow : Nat) (f_T_treesLow : Nat → Int32) (a_T_treesHigh : Nat) (f_T_treesHigh : Nat → Int32) (a_P : Nat) (v_P_size : Nat) (a_P_xs : Nat) (f_P_xs : Nat → Int32) (a_P_ys : Nat) (f_P_ys : Nat → Int32) (a_P_cells : Nat) (f_P_cells : Nat → Int32) (a_P_lows : Nat) (f_P_lows : Nat → Int32) (a_P_highs : Nat) (f_P_highs : Nat → Int32) (a_T_worst : Nat) (a_T_best : Nat) (a_P_states : Nat) (a_P_men : Nat) (a_P_stores : Nat) (x0 : Nat) (x1 : Nat) (hv_T_width : v_T_width ≤ 16) (gv_T_width : 4 ≤ v_T_width) (hv_T_height : v_T_height ≤ 16) (gv_T_height : 4 ≤ v_T_height) (r_T_woods : uRg f_T_woods 0 3) (hv_P_size : v_P_size ≤ 12) (r_P_xs : uRg f_P_xs 0 15) (r_P_ys : uRg f_P_ys 0 15) (r_P_cells : uRg f_P_cells 0 255) (hx0 : x0 < v_P_size) (hx1 : x1 < v_P_size) : uMi l yX8_metresLacking cX8_metresLacking 8 (some .int) { frames := 2, cells := 0, slots := 0, locals := 53 } [.ref a_S, .int (nI x0), .int (nI x1)] D K [(a_S, .inr (8, [.ref a_T, .ref a_P])), (a_T, .inr (9, [.ref a_T_heights, .ref a_T_woods, .ref a_T_treesLow, .ref a_T_treesHigh, .ref a_T_worst, .ref a_T_best, .int (nI v_T_width), .int (nI v_T_height), .int v_T_bending])), (a_T_heights, .inl (K 0, 256, .inl f_T_heights)), (a_T_woods, .inl (K 0, 256, .inl f_T_woods)), (a_T_treesLow, .inl (K 0, 4, .inl f_T_treesLow)), (a_T_treesHigh, .inl (K 0, 4, .inl f_T_treesHigh)), (a_P, .inr (4, [.ref a_T, .ref a_P_xs, .ref a_P_ys, .ref a_P_cells, .ref a_P_lows, .ref a_P_highs, .ref a_P_states, .ref a_P_men, .ref a_P_stores, .int (nI v_P_size)])), (a_P_xs, .inl (K 0, 12, .inl f_P_xs)), (a_P_ys, .inl (K 0, 12, .inl f_P_ys)), (a_P_cells, .inl (K 0, 12, .inl f_P_cells)), (a_P_lows, .inl (K 0, 12, .inl f_P_lows)), (a_P_highs, .inl (K 0, 12, .inl f_P_highs))] sz (qwX8_metresLacking a_S a_T v_T_width v_T_height v_T_bending a_T_heights f_T_heights a_T_woods f_T_woods a_T_treesLow f_T_treesLow a_T_treesHigh f_T_treesHigh a_P v_P_size a_P_xs f_P_xs a_P_ys f_P_ys a_P_cells f_P_cells a_P_lows f_P_lows a_P_highs f_P_highs a_T_worst a_T_best a_P_states a_P_men a_P_stores x0 x1) (vwX8_metresLacking K a_S a_T v_T_width v_T_height v_T_bending a_T_heights f_T_heights a_T_woods f_T_woods a_T_treesLow f_T_treesLow a_T_treesHigh f_T_treesHigh a_P v_P_size a_P_xs f_P_xs a_P_ys f_P_ys a_P_cells f_P_cells a_P_lows f_P_lows a_P_highs f_P_highs a_T_worst a_T_best a_P_states a_P_men a_P_stores x0 x1) := by
  refine uMet (Qc := uQi D (qwX8_metresLacking a_S a_T v_T_width v_T_height v_T_bending a_T_heights f_T_heights a_T_woods f_T_woods a_T_treesLow f_T_treesLow a_T_treesHigh f_T_treesHigh a_P v_P_size a_P_xs f_P_xs a_P_ys f_P_ys a_P_cells f_P_cells a_P_lows f_P_lows a_P_highs f_P_highs a_T_worst a_T_best a_P_states a_P_men a_P_stores x0 x1) (vwX8_metresLacking K a_S a_T v_T_width v_T_height v_T_bending a_T_heights f_T_heights a_T_woods f_T_woods a_T_treesLow f_T_treesLow a_T_treesHigh f_T_treesHigh a_P v_P_size a_P_xs f_P_xs a_P_ys f_P_ys a_P_cells f_P_cells a_P_lows f_P_lows a_P_highs f_P_highs a_T_worst a_T_best a_P_states a_P_men a_P_stores x0 x1)) (ret := (some .int)) (by decide) (Nat.le_of_ble_eq_true rfl) ?_
  intro p e s m below meth c A ls hAe hsz B hP hD hS hl
  have hx := B.1
  have hb := B.2.1
  have hl : lv_has ls 8 [(0, .ref a_S), (1, .int (nI x0)), (2, .int (nI x1))] := hl
  refine lv_aload_n hx hb dX8_metresLacking_0 rfl (lv_at hl 0 rfl) ?_
  refine lv_iload_n hx hb dX8_metresLacking_1 rfl (lv_at hl 1 rfl) ?_
  refine lv_iload_n hx hb dX8_metresLacking_2 rfl (lv_at hl 2 rfl) ?_
  refine uVi (As := [.int (nI x0), .int (nI x1)]) (rest := []) (wr := [(a_T, .inr (9, [.ref a_T_heights, .ref a_T_woods, .ref a_T_treesLow, .ref a_T_treesHigh, .ref a_T_worst, .ref a_T_best, .int (nI v_T_width), .int (nI v_T_height), .int v_T_bending])), (a_T_heights, .inl (K 0, 256, .inl f_T_heights)), (a_T_woods, .inl (K 0, 256, .inl f_T_woods)), (a_T_treesLow, .inl (K 0, 4, .inl f_T_treesLow)), (a_T_treesHigh, .inl (K 0, 4, .inl f_T_treesHigh)), (a_P_cells, .inl (K 0, 12, .inl f_P_cells)), (a_P_lows, .inl (K 0, 12, .inl f_P_lows)), (a_P_highs, .inl (K 0, 12, .inl f_P_highs))]) [(a_S, .inr (8, [.ref a_T, .ref a_P])), (a_P, .inr (4, [.ref a_T, .ref a_P_xs, .ref a_P_ys, .ref a_P_cells, .ref a_P_lows, .ref a_P_highs, .ref a_P_states, .ref a_P_men, .ref a_P_stores, .int (nI v_P_size)])), (a_P_xs, .inl (K 0, 12, .inl f_P_xs)), (a_P_ys, .inl (K 0, 12, .inl f_P_ys))] B hl.1 hP hD hS [0, 6, 7, 8] [1, 2, 3, 4, 5, 9, 10, 11] rfl rfl rfl (wX8_span l D K _ a_S a_P v_P_size a_P_xs f_P_xs a_P_ys f_P_ys a_T a_P_cells a_P_lows a_P_highs a_P_states a_P_men a_P_stores x0 x1 (by omega) r_P_xs r_P_ys (by omega) (by omega)) wd_X8_span mml_X8_38 rfl rfl rfl rfl ⟨Nat.le_of_ble_eq_true rfl, Nat.le_of_ble_eq_true rfl⟩ (Nat.le_of_ble_eq_true rfl) ⟨Nat.le_of_ble_eq_true rfl, Nat.le_of_ble_eq_true rfl⟩ dX8_metresLacking_3 (fun r1 u H locs hw hP hD hS => ?_)
  try dsimp only at hw
  have w2 := hw
  have hP : va_P D vwCl [(a_T, .inr (9, [.ref a_T_heights, .ref a_T_woods, .ref a_T_treesLow, .ref a_T_treesHigh, .ref a_T_worst, .ref a_T_best, .int (nI v_T_width), .int (nI v_T_height), .int v_T_bending])), (a_T_heights, .inl (K 0, 256, .inl f_T_heights)), (a_T_woods, .inl (K 0, 256, .inl f_T_woods)), (a_T_treesLow, .inl (K 0, 4, .inl f_T_treesLow)), (a_T_treesHigh, .inl (K 0, 4, .inl f_T_treesHigh)), (a_P_cells, .inl (K 0, 12, .inl f_P_cells)), (a_P_lows, .inl (K 0, 12, .inl f_P_lows)), (a_P_highs, .inl (K 0, 12, .inl f_P_highs)), (a_S, .inr (8, [.ref a_T, .ref a_P])), (a_P, .inr (4, [.ref a_T, .ref a_P_xs, .ref a_P_ys, .ref a_P_cells, .ref a_P_lows, .ref a_P_highs, .ref a_P_states, .ref a_P_men, .ref a_P_stores, .int (nI v_P_size)])), (a_P_xs, .inl (K 0, 12, .inl f_P_xs)), (a_P_ys, .inl (K 0, 12, .inl f_P_ys))] H := hP
  have hD := uDPJ hP hD
  obtain ⟨a3, ha3, ea3⟩ := w2
  refine lv_fixi (y := (nI a3)) ea3 ?_
  refine lv_istore_n (lv' := [(3, .int (nI a3)), (0, .ref a_S), (1, .int (nI x0)), (2, .int (nI x1))]) hx hb dX8_metresLacking_6 rfl hl (by decide) rfl (fun ls hl => ?_)
  refine lv_pc (q := 7) rfl ?_
  refine lv_iconst (v := 0) hx hb dX8_metresLacking_7 (by decide) ?_
  refine lv_istore (lv' := [(4, .int 0), (3, .int (nI a3)), (0, .ref a_S), (1, .int (nI x0)), (2, .int (nI x1))]) hx hb dX8_metresLacking_8 hl (by decide) rfl (fun ls hl => ?_)
  refine lv_iconst (v := 1) hx hb dX8_metresLacking_10 (by decide) ?_
  refine lv_istore (lv' := [(5, .int 1), (4, .int 0), (3, .int (nI a3)), (0, .ref a_S), (1, .int (nI x0)), (2, .int (nI x1))]) hx hb dX8_metresLacking_11 hl (by decide) rfl (fun ls hl => ?_)
  have L7 : ∀ (n9 : Nat) (j4 : Nat) (y5 : Int32), (j4 ≤ 16) → 16 - j4 < n9 → ∀ (H : Heap) (locs : List Loc) (ls : Array Slot), va_P D vwCl [(a_T, .inr (9, [.ref a_T_heights, .ref a_T_woods, .ref a_T_treesLow, .ref a_T_treesHigh, .ref a_T_worst, .ref a_T_best, .int (nI v_T_width), .int (nI v_T_height), .int v_T_bending])), (a_T_heights, .inl (K 0, 256, .inl f_T_heights)), (a_T_woods, .inl (K 0, 256, .inl f_T_woods)), (a_T_treesLow, .inl (K 0, 4, .inl f_T_treesLow)), (a_T_treesHigh, .inl (K 0, 4, .inl f_T_treesHigh)), (a_P_cells, .inl (K 0, 12, .inl f_P_cells)), (a_P_lows, .inl (K 0, 12, .inl f_P_lows)), (a_P_highs, .inl (K 0, 12, .inl f_P_highs)), (a_S, .inr (8, [.ref a_T, .ref a_P])), (a_P, .inr (4, [.ref a_T, .ref a_P_xs, .ref a_P_ys, .ref a_P_cells, .ref a_P_lows, .ref a_P_highs, .ref a_P_states, .ref a_P_men, .ref a_P_stores, .int (nI v_P_size)])), (a_P_xs, .inl (K 0, 12, .inl f_P_xs)), (a_P_ys, .inl (K 0, 12, .inl f_P_ys))] H → va_D A [(a_T, .inr (9, [.ref a_T_heights, .ref a_T_woods, .ref a_T_treesLow, .ref a_T_treesHigh, .ref a_T_worst, .ref a_T_best, .int (nI v_T_width), .int (nI v_T_height), .int v_T_bending])), (a_T_heights, .inl (K 0, 256, .inl f_T_heights)), (a_T_woods, .inl (K 0, 256, .inl f_T_woods)), (a_T_treesLow, .inl (K 0, 4, .inl f_T_treesLow)), (a_T_treesHigh, .inl (K 0, 4, .inl f_T_treesHigh)), (a_P_cells, .inl (K 0, 12, .inl f_P_cells)), (a_P_lows, .inl (K 0, 12, .inl f_P_lows)), (a_P_highs, .inl (K 0, 12, .inl f_P_highs)), (a_S, .inr (8, [.ref a_T, .ref a_P])), (a_P, .inr (4, [.ref a_T, .ref a_P_xs, .ref a_P_ys, .ref a_P_cells, .ref a_P_lows, .ref a_P_highs, .ref a_P_states, .ref a_P_men, .ref a_P_stores, .int (nI v_P_size)])), (a_P_xs, .inl (K 0, 12, .inl f_P_xs)), (a_P_ys, .inl (K 0, 12, .inl f_P_ys))] → va_S A s.heap H locs → lv_has ls 8 [(5, .int (nI j4)), (4, .int y5), (3, .int (nI a3)), (0, .ref a_S), (1, .int (nI x0)), (2, .int (nI x1))] → W p l e { frames := 2, cells := 0, slots := 0, locals := 53 } s m ([.ref a_S, .int (nI x0), .int (nI x1)] : List Value).toArray below meth c H locs 0 0 (MQ below (uQi D (qwX8_metresLacking a_S a_T v_T_width v_T_height v_T_bending a_T_heights f_T_heights a_T_woods f_T_woods a_T_treesLow f_T_treesLow a_T_treesHigh f_T_treesHigh a_P v_P_size a_P_xs f_P_xs a_P_ys f_P_ys a_P_cells f_P_cells a_P_lows f_P_lows a_P_highs f_P_highs a_T_worst a_T_best a_P_states a_P_men a_P_stores x0 x1) (vwX8_metresLacking K a_S a_T v_T_width v_T_height v_T_bending a_T_heights f_T_heights a_T_woods f_T_woods a_T_treesLow f_T_treesLow a_T_treesHigh f_T_treesHigh a_P v_P_size a_P_xs f_P_xs a_P_ys f_P_ys a_P_cells f_P_cells a_P_lows f_P_lows a_P_highs f_P_highs a_T_worst a_T_best a_P_states a_P_men a_P_stores x0 x1) A) ([.ref a_S, .int (nI x0), .int (nI x1)] : List Value).toArray s 0 0 A) (F0 m 13 ls []) := by
    intro n9
    induction n9 with
    | zero => intros; exact absurd ‹_ < 0› (Nat.not_lt_zero _)
    | succ n13_ ih13 =>
      intro j4 y5 hj4 hm13 H locs ls hP hD hS hl
      refine lv_iload hx hb dX8_metresLacking_13 (lv_at hl 0 rfl) ?_
      refine lv_iload_n hx hb dX8_metresLacking_15 rfl (lv_at hl 2 rfl) ?_
      refine lv_pc (q := 16) rfl ?_
      refine lv_icmp_ge (tgt := 68) hx hb dX8_metresLacking_16 (by decide) (fun c8 => ?_) (fun c8 => ?_)
      · have k_8 : a3 ≤ j4 := (nI_leI (a := a3) (b := j4) (by omega) (by omega)).mp c8
        refine lv_iload hx hb dX8_metresLacking_68 (lv_at hl 1 rfl) ?_
        exact uRi () B trivial (uSub hP [8, 0, 1, 2, 3, 4, 9, 10, 11, 5, 6, 7] rfl) (hD.sub [8, 0, 1, 2, 3, 4, 9, 10, 11, 5, 6, 7] rfl rfl) hS dX8_metresLacking_70
      have k_8 : ¬ a3 ≤ j4 := fun h9 => c8 ((nI_leI (a := a3) (b := j4) (by omega) (by omega)).mpr h9)
      refine lv_sipush (v := 1000) hx hb dX8_metresLacking_19 (by decide) ?_
      refine lv_iload_n hx hb dX8_metresLacking_22 rfl (lv_at hl 2 rfl) ?_
      refine lv_iload hx hb dX8_metresLacking_23 (lv_at hl 0 rfl) ?_
      refine lv_isub hx hb dX8_metresLacking_25 ?_
      refine lv_fixi (y := (nI (a3 - j4))) (by rw [pk_sub (by omega)]) ?_
      refine lv_imul hx hb dX8_metresLacking_26 ?_
      refine lv_fixi (y := (nI (1000 * (a3 - j4)))) (by rw [show (1000 : Int32) = nI 1000 from rfl, pk_mul]) ?_
      refine lv_pc (q := 27) rfl ?_
      refine lv_istore (lv' := [(6, .int (nI (1000 * (a3 - j4)))), (5, .int (nI j4)), (4, .int y5), (3, .int (nI a3)), (0, .ref a_S), (1, .int (nI x0)), (2, .int (nI x1))]) hx hb dX8_metresLacking_27 hl (by decide) rfl (fun ls hl => ?_)
      refine lv_iconst (v := 0) hx hb dX8_metresLacking_29 (by decide) ?_
      refine lv_aload_n hx hb dX8_metresLacking_30 rfl (lv_at hl 4 rfl) ?_
      refine lv_iload_n hx hb dX8_metresLacking_31 rfl (lv_at hl 5 rfl) ?_
      refine lv_iload_n hx hb dX8_metresLacking_32 rfl (lv_at hl 6 rfl) ?_
      refine lv_iload hx hb dX8_metresLacking_33 (lv_at hl 1 rfl) ?_
      refine lv_pc (q := 35) rfl ?_
      refine lv_iload_n hx hb dX8_metresLacking_35 rfl (lv_at hl 3 rfl) ?_
      refine lv_iconst (v := 1) hx hb dX8_metresLacking_36 (by decide) ?_
      refine uViJ (As := [.int (nI x0), .int (nI x1), .int (nI j4), .int (nI a3), .int 1]) (rest := [.int 0]) (wr := []) (wX8_excess l D K _ a_S a_T v_T_width v_T_height v_T_bending a_T_heights f_T_heights a_T_woods f_T_woods a_T_treesLow f_T_treesLow a_T_treesHigh f_T_treesHigh a_P v_P_size a_P_xs f_P_xs a_P_ys f_P_ys a_P_cells f_P_cells a_P_lows f_P_lows a_P_highs f_P_highs a_T_worst a_T_best a_P_states a_P_men a_P_stores x0 x1 j4 a3 1 (by omega) (by omega) (by omega) (by omega) r_T_woods (by omega) r_P_xs r_P_ys r_P_cells (by omega) (by omega) (by omega) (by omega) (by decide)) B hl.1 hP hD hS [8, 0, 1, 2, 3, 4, 9, 10, 11, 5, 6, 7] [] rfl rfl rfl wd_X8_excess mml_X8_64 rfl rfl rfl rfl ⟨Nat.le_of_ble_eq_true rfl, Nat.le_of_ble_eq_true rfl⟩ (Nat.le_of_ble_eq_true rfl) ⟨Nat.le_of_ble_eq_true rfl, Nat.le_of_ble_eq_true rfl⟩ dX8_metresLacking_37 (fun r9 u H locs hw hP hD hS => ?_)
      try dsimp only at hw
      have hP : va_P D vwCl [(a_S, .inr (8, [.ref a_T, .ref a_P])), (a_T, .inr (9, [.ref a_T_heights, .ref a_T_woods, .ref a_T_treesLow, .ref a_T_treesHigh, .ref a_T_worst, .ref a_T_best, .int (nI v_T_width), .int (nI v_T_height), .int v_T_bending])), (a_T_heights, .inl (K 0, 256, .inl f_T_heights)), (a_T_woods, .inl (K 0, 256, .inl f_T_woods)), (a_T_treesLow, .inl (K 0, 4, .inl f_T_treesLow)), (a_T_treesHigh, .inl (K 0, 4, .inl f_T_treesHigh)), (a_P, .inr (4, [.ref a_T, .ref a_P_xs, .ref a_P_ys, .ref a_P_cells, .ref a_P_lows, .ref a_P_highs, .ref a_P_states, .ref a_P_men, .ref a_P_stores, .int (nI v_P_size)])), (a_P_xs, .inl (K 0, 12, .inl f_P_xs)), (a_P_ys, .inl (K 0, 12, .inl f_P_ys)), (a_P_cells, .inl (K 0, 12, .inl f_P_cells)), (a_P_lows, .inl (K 0, 12, .inl f_P_lows)), (a_P_highs, .inl (K 0, 12, .inl f_P_highs))] H := hP
      have hD := uDPJ hP hD
      refine uMax B hl.1 mml_X8_34 (Nat.le_of_ble_eq_true rfl) (Nat.le_of_ble_eq_true rfl) (Nat.le_of_ble_eq_true rfl) (Nat.le_of_ble_eq_true rfl) dX8_metresLacking_40 ?_
      refine lv_istore (lv' := [(7, .int (if 0 < r9 then r9 else 0)), (6, .int (nI (1000 * (a3 - j4)))), (5, .int (nI j4)), (4, .int y5), (3, .int (nI a3)), (0, .ref a_S), (1, .int (nI x0)), (2, .int (nI x1))]) hx hb dX8_metresLacking_43 hl (by decide) rfl (fun ls hl => ?_)
      refine lv_iload hx hb dX8_metresLacking_45 (lv_at hl 3 rfl) ?_
      refine lv_pc (q := 47) rfl ?_
      refine lv_iload hx hb dX8_metresLacking_47 (lv_at hl 0 rfl) ?_
      refine lv_iload hx hb dX8_metresLacking_49 (lv_at hl 1 rfl) ?_
      refine lv_iadd hx hb dX8_metresLacking_51 ?_
      refine lv_iconst (v := 1) hx hb dX8_metresLacking_52 (by decide) ?_
      refine lv_isub hx hb dX8_metresLacking_53 ?_
      refine lv_iload hx hb dX8_metresLacking_54 (lv_at hl 1 rfl) ?_
      refine lv_pc (q := 56) rfl ?_
      refine lv_idiv hx hb dX8_metresLacking_56 (nI_ne0 (by omega) (by omega)) ?_
      refine uMax B hl.1 mml_X8_34 (Nat.le_of_ble_eq_true rfl) (Nat.le_of_ble_eq_true rfl) (Nat.le_of_ble_eq_true rfl) (Nat.le_of_ble_eq_true rfl) dX8_metresLacking_57 ?_
      refine lv_istore (lv' := [(4, .int (if y5 < ((((if 0 < r9 then r9 else 0) + (nI (1000 * (a3 - j4)))) - 1) / (nI (1000 * (a3 - j4)))) then ((((if 0 < r9 then r9 else 0) + (nI (1000 * (a3 - j4)))) - 1) / (nI (1000 * (a3 - j4)))) else y5)), (7, .int (if 0 < r9 then r9 else 0)), (6, .int (nI (1000 * (a3 - j4)))), (5, .int (nI j4)), (3, .int (nI a3)), (0, .ref a_S), (1, .int (nI x0)), (2, .int (nI x1))]) hx hb dX8_metresLacking_60 hl (by decide) rfl (fun ls hl => ?_)
      refine lv_iinc (v := nI (j4 + 1)) (lv' := [(5, .int (nI (j4 + 1))), (4, .int (if y5 < ((((if 0 < r9 then r9 else 0) + (nI (1000 * (a3 - j4)))) - 1) / (nI (1000 * (a3 - j4)))) then ((((if 0 < r9 then r9 else 0) + (nI (1000 * (a3 - j4)))) - 1) / (nI (1000 * (a3 - j4)))) else y5)), (7, .int (if 0 < r9 then r9 else 0)), (6, .int (nI (1000 * (a3 - j4)))), (3, .int (nI a3)), (0, .ref a_S), (1, .int (nI x0)), (2, .int (nI x1))]) hx hb dX8_metresLacking_62 hl (k := 3) rfl (nI_1 _) (by decide) rfl (fun ls hl => ?_)
      refine lv_goto (tgt := 13) hx hb dX8_metresLacking_65 (by decide) ?_
      refine lv_pc (q := 13) rfl ?_
      refine W.widen (k := 0) (n := 0) (Nat.le_of_ble_eq_true rfl) (Nat.le_of_ble_eq_true rfl) ?_
      exact ih13 (j4 + 1) (if y5 < ((((if 0 < r9 then r9 else 0) + (nI (1000 * (a3 - j4)))) - 1) / (nI (1000 * (a3 - j4)))) then ((((if 0 < r9 then r9 else 0) + (nI (1000 * (a3 - j4)))) - 1) / (nI (1000 * (a3 - j4)))) else y5) (by omega) (by omega) _ _ _ (uSub hP [1, 2, 3, 4, 5, 9, 10, 11, 0, 6, 7, 8] rfl) (hD.sub [1, 2, 3, 4, 5, 9, 10, 11, 0, 6, 7, 8] rfl rfl) hS (lv_sub hl [0, 1, 4, 5, 6, 7] rfl)
  refine lv_pc (q := 13) rfl ?_
  refine W.widen (k := 0) (n := 0) (Nat.le_of_ble_eq_true rfl) (Nat.le_of_ble_eq_true rfl) ?_
  exact L7 ((16 - 1) + 1) 1 0 (by omega) (Nat.lt_succ_self _) _ _ _ hP hD hS hl
def qwX8_levelOf (a_S : Nat) (a_T : Nat) (v_T_width : Nat) (v_T_height : Nat) (v_T_bending : Int32) (a_T_heights : Nat) (f_T_heights : Nat → Int32) (a_T_woods : Nat) (f_T_woods : Nat → Int32) (a_T_treesLow : Nat) (f_T_treesLow : Nat → Int32) (a_T_treesHigh : Nat) (f_T_treesHigh : Nat → Int32) (a_T_worst : Nat) (f_T_worst : Nat → Int32) (a_T_best : Nat) (f_T_best : Nat → Int32) (a_P : Nat) (v_P_size : Nat) (a_P_xs : Nat) (f_P_xs : Nat → Int32) (a_P_ys : Nat) (f_P_ys : Nat → Int32) (a_P_cells : Nat) (f_P_cells : Nat → Int32) (a_P_lows : Nat) (f_P_lows : Nat → Int32) (a_P_highs : Nat) (f_P_highs : Nat → Int32) (a_P_states : Nat) (a_P_men : Nat) (a_P_stores : Nat) (x0 : Nat) (x1 : Nat) (x2 : Nat) (x3 : Nat) : Int32 → (Unit) → Prop := (fun (r : Int32) (u : Unit) => True)
def vwX8_levelOf (K : Nat → ClassId) (a_S : Nat) (a_T : Nat) (v_T_width : Nat) (v_T_height : Nat) (v_T_bending : Int32) (a_T_heights : Nat) (f_T_heights : Nat → Int32) (a_T_woods : Nat) (f_T_woods : Nat → Int32) (a_T_treesLow : Nat) (f_T_treesLow : Nat → Int32) (a_T_treesHigh : Nat) (f_T_treesHigh : Nat → Int32) (a_T_worst : Nat) (f_T_worst : Nat → Int32) (a_T_best : Nat) (f_T_best : Nat → Int32) (a_P : Nat) (v_P_size : Nat) (a_P_xs : Nat) (f_P_xs : Nat → Int32) (a_P_ys : Nat) (f_P_ys : Nat → Int32) (a_P_cells : Nat) (f_P_cells : Nat → Int32) (a_P_lows : Nat) (f_P_lows : Nat → Int32) (a_P_highs : Nat) (f_P_highs : Nat → Int32) (a_P_states : Nat) (a_P_men : Nat) (a_P_stores : Nat) (x0 : Nat) (x1 : Nat) (x2 : Nat) (x3 : Nat) : (Unit) → va_W := (fun (u : Unit) => [(a_S, .inr (8, [.ref a_T, .ref a_P])), (a_T, .inr (9, [.ref a_T_heights, .ref a_T_woods, .ref a_T_treesLow, .ref a_T_treesHigh, .ref a_T_worst, .ref a_T_best, .int (nI v_T_width), .int (nI v_T_height), .int v_T_bending])), (a_T_heights, .inl (K 0, 256, .inl f_T_heights)), (a_T_woods, .inl (K 0, 256, .inl f_T_woods)), (a_T_treesLow, .inl (K 0, 4, .inl f_T_treesLow)), (a_T_treesHigh, .inl (K 0, 4, .inl f_T_treesHigh)), (a_T_worst, .inl (K 0, 24, .inl f_T_worst)), (a_T_best, .inl (K 0, 24, .inl f_T_best)), (a_P, .inr (4, [.ref a_T, .ref a_P_xs, .ref a_P_ys, .ref a_P_cells, .ref a_P_lows, .ref a_P_highs, .ref a_P_states, .ref a_P_men, .ref a_P_stores, .int (nI v_P_size)])), (a_P_xs, .inl (K 0, 12, .inl f_P_xs)), (a_P_ys, .inl (K 0, 12, .inl f_P_ys)), (a_P_cells, .inl (K 0, 12, .inl f_P_cells)), (a_P_lows, .inl (K 0, 12, .inl f_P_lows)), (a_P_highs, .inl (K 0, 12, .inl f_P_highs))])
set_option maxHeartbeats 4000000 in
set_option maxRecDepth 100000 in
theorem wX8_levelOf (l : Launch) (D : va_G) (K : Nat → ClassId) (sz : Nat) (a_S : Nat) (a_T : Nat) (v_T_width : Nat) (v_T_height : Nat) (v_T_bending : Int32) (a_T_heights : Nat) (f_T_heights : Nat → Int32) (a_T_woods : Nat) (f_T_woods : Nat → Int32) (a_T_treesLow : Nat) (f_T_treesLow : Nat → Int32) (a_T_treesHigh : Nat) (f_T_treesHigh : Nat → Int32) (a_T_worst : Nat) (f_T_worst : Nat → Int32) (a_T_best : Nat) (f_T_best : Nat → Int32) (a_P : Nat) (v_P_size : Nat) (a_P_xs : Nat) (f_P_xs : Nat → Int32) (a_P_ys : Nat) (f_P_ys : Nat → Int32) (a_P_cells : Nat) (f_P_cells : Nat → Int32) (a_P_lows : Nat) (f_P_lows : Nat → Int32) (a_P_highs : Nat) (f_P_highs : Nat → Int32) (a_P_states : Nat) (a_P_men : Nat) (a_P_stores : Nat) (x0 : Nat) (x1 : Nat) (x2 : Nat) (x3 : Nat) (hv_T_width : v_T_width ≤ 16) (gv_T_width : 4 ≤ v_T_width) (hv_T_height : v_T_height ≤ 16) (gv_T_height : 4 ≤ v_T_height) (r_T_woods : uRg f_T_woods 0 3) (hv_P_size : v_P_size ≤ 12) (r_P_xs : uRg f_P_xs 0 15) (r_P_ys : uRg f_P_ys 0 15) (r_P_cells : uRg f_P_cells 0 255) (hx0 : x0 < v_P_size) (hx1 : x1 < v_P_size) (hx2 : x2 < 12) (hx3 : x3 < 2) : uMi l yX8_levelOf cX8_levelOf 6 (some .int) { frames := 3, cells := 0, slots := 0, locals := 78 } [.ref a_S, .int (nI x0), .int (nI x1), .int (nI x2), .int (nI x3)] D K [(a_S, .inr (8, [.ref a_T, .ref a_P])), (a_T, .inr (9, [.ref a_T_heights, .ref a_T_woods, .ref a_T_treesLow, .ref a_T_treesHigh, .ref a_T_worst, .ref a_T_best, .int (nI v_T_width), .int (nI v_T_height), .int v_T_bending])), (a_T_heights, .inl (K 0, 256, .inl f_T_heights)), (a_T_woods, .inl (K 0, 256, .inl f_T_woods)), (a_T_treesLow, .inl (K 0, 4, .inl f_T_treesLow)), (a_T_treesHigh, .inl (K 0, 4, .inl f_T_treesHigh)), (a_T_worst, .inl (K 0, 24, .inl f_T_worst)), (a_T_best, .inl (K 0, 24, .inl f_T_best)), (a_P, .inr (4, [.ref a_T, .ref a_P_xs, .ref a_P_ys, .ref a_P_cells, .ref a_P_lows, .ref a_P_highs, .ref a_P_states, .ref a_P_men, .ref a_P_stores, .int (nI v_P_size)])), (a_P_xs, .inl (K 0, 12, .inl f_P_xs)), (a_P_ys, .inl (K 0, 12, .inl f_P_ys)), (a_P_cells, .inl (K 0, 12, .inl f_P_cells)), (a_P_lows, .inl (K 0, 12, .inl f_P_lows)), (a_P_highs, .inl (K 0, 12, .inl f_P_highs))] sz (qwX8_levelOf a_S a_T v_T_width v_T_height v_T_bending a_T_heights f_T_heights a_T_woods f_T_woods a_T_treesLow f_T_treesLow a_T_treesHigh f_T_treesHigh a_T_worst f_T_worst a_T_best f_T_best a_P v_P_size a_P_xs f_P_xs a_P_ys f_P_ys a_P_cells f_P_cells a_P_lows f_P_lows a_P_highs f_P_highs a_P_states a_P_men a_P_stores x0 x1 x2 x3) (vwX8_levelOf K a_S a_T v_T_width v_T_height v_T_bending a_T_heights f_T_heights a_T_woods f_T_woods a_T_treesLow f_T_treesLow a_T_treesHigh f_T_treesHigh a_T_worst f_T_worst a_T_best f_T_best a_P v_P_size a_P_xs f_P_xs a_P_ys f_P_ys a_P_cells f_P_cells a_P_lows f_P_lows a_P_highs f_P_highs a_P_states a_P_men a_P_stores x0 x1 x2 x3) := by
  refine uMet (Qc := uQi D (qwX8_levelOf a_S a_T v_T_width v_T_height v_T_bending a_T_heights f_T_heights a_T_woods f_T_woods a_T_treesLow f_T_treesLow a_T_treesHigh f_T_treesHigh a_T_worst f_T_worst a_T_best f_T_best a_P v_P_size a_P_xs f_P_xs a_P_ys f_P_ys a_P_cells f_P_cells a_P_lows f_P_lows a_P_highs f_P_highs a_P_states a_P_men a_P_stores x0 x1 x2 x3) (vwX8_levelOf K a_S a_T v_T_width v_T_height v_T_bending a_T_heights f_T_heights a_T_woods f_T_woods a_T_treesLow f_T_treesLow a_T_treesHigh f_T_treesHigh a_T_worst f_T_worst a_T_best f_T_best a_P v_P_size a_P_xs f_P_xs a_P_ys f_P_ys a_P_cells f_P_cells a_P_lows f_P_lows a_P_highs f_P_highs a_P_states a_P_men a_P_stores x0 x1 x2 x3)) (ret := (some .int)) (by decide) (Nat.le_of_ble_eq_true rfl) ?_
  intro p e s m below meth c A ls hAe hsz B hP hD hS hl
  have hx := B.1
  have hb := B.2.1
  have hl : lv_has ls 6 [(0, .ref a_S), (1, .int (nI x0)), (2, .int (nI x1)), (3, .int (nI x2)), (4, .int (nI x3))] := hl
  refine lv_iload_n hx hb dX8_levelOf_0 rfl (lv_at hl 3 rfl) ?_
  refine lv_iconst (v := 2) hx hb dX8_levelOf_1 (by decide) ?_
  refine lv_imul hx hb dX8_levelOf_2 ?_
  refine lv_fixi (y := (nI (x2 * 2))) (by rw [show (2 : Int32) = nI 2 from rfl, pk_mul]) ?_
  refine lv_iload hx hb dX8_levelOf_3 (lv_at hl 4 rfl) ?_
  refine lv_iadd hx hb dX8_levelOf_5 ?_
  refine lv_fixi (y := (nI ((x2 * 2) + x3))) (by rw [nI_add]) ?_
  refine lv_pc (q := 6) rfl ?_
  refine lv_istore (lv' := [(5, .int (nI ((x2 * 2) + x3))), (0, .ref a_S), (1, .int (nI x0)), (2, .int (nI x1)), (3, .int (nI x2)), (4, .int (nI x3))]) hx hb dX8_levelOf_6 hl (by decide) rfl (fun ls hl => ?_)
  refine lv_aload_n hx hb dX8_levelOf_8 rfl (lv_at hl 1 rfl) ?_
  refine lv_iload_n hx hb dX8_levelOf_9 rfl (lv_at hl 2 rfl) ?_
  refine lv_iload_n hx hb dX8_levelOf_10 rfl (lv_at hl 3 rfl) ?_
  refine lv_aload_n hx hb dX8_levelOf_11 rfl (lv_at hl 1 rfl) ?_
  refine uGet (ci := 8) (C := RX8) (T := TX8) (N := 2) (v := .ref a_T) B inlX8 hP 0 rfl rfl 0 rfl mfl_X8_9 rfl rfl dX8_levelOf_12 ?_
  refine lv_pc (q := 15) rfl ?_
  refine uGet (ci := 9) (C := RX9) (T := TX9) (N := 9) (v := .ref a_T_worst) B inlX9 hP 1 rfl rfl 4 rfl mfl_X8_68 rfl rfl dX8_levelOf_15 ?_
  refine lv_iload hx hb dX8_levelOf_18 (lv_at hl 0 rfl) ?_
  refine uIald (i := (nI ((x2 * 2) + x3))) (j := (x2 * 2) + x3) B hP 6 rfl (nI_in (by omega) (by omega)) (nI_clamp (by omega)) dX8_levelOf_20 ?_
  refine uVi (As := [.int (nI x0), .int (nI x1), .int (f_T_worst ((x2 * 2) + x3))]) (rest := []) (wr := [(a_T, .inr (9, [.ref a_T_heights, .ref a_T_woods, .ref a_T_treesLow, .ref a_T_treesHigh, .ref a_T_worst, .ref a_T_best, .int (nI v_T_width), .int (nI v_T_height), .int v_T_bending])), (a_T_heights, .inl (K 0, 256, .inl f_T_heights)), (a_T_woods, .inl (K 0, 256, .inl f_T_woods)), (a_T_treesLow, .inl (K 0, 4, .inl f_T_treesLow)), (a_T_treesHigh, .inl (K 0, 4, .inl f_T_treesHigh)), (a_T_worst, .inl (K 0, 24, .inl f_T_worst)), (a_T_best, .inl (K 0, 24, .inl f_T_best)), (a_P_cells, .inl (K 0, 12, .inl f_P_cells)), (a_P_lows, .inl (K 0, 12, .inl f_P_lows)), (a_P_highs, .inl (K 0, 12, .inl f_P_highs))]) [(a_S, .inr (8, [.ref a_T, .ref a_P])), (a_P, .inr (4, [.ref a_T, .ref a_P_xs, .ref a_P_ys, .ref a_P_cells, .ref a_P_lows, .ref a_P_highs, .ref a_P_states, .ref a_P_men, .ref a_P_stores, .int (nI v_P_size)])), (a_P_xs, .inl (K 0, 12, .inl f_P_xs)), (a_P_ys, .inl (K 0, 12, .inl f_P_ys))] B hl.1 hP hD hS [0, 8, 9, 10] [1, 2, 3, 4, 5, 6, 7, 11, 12, 13] rfl rfl rfl (wX8_reaches l D K _ a_S a_P v_P_size a_P_xs f_P_xs a_P_ys f_P_ys a_T a_P_cells a_P_lows a_P_highs a_P_states a_P_men a_P_stores x0 x1 (f_T_worst ((x2 * 2) + x3)) (by omega) r_P_xs r_P_ys (by omega) (by omega)) wd_X8_reaches mml_X8_71 rfl rfl rfl rfl ⟨Nat.le_of_ble_eq_true rfl, Nat.le_of_ble_eq_true rfl⟩ (Nat.le_of_ble_eq_true rfl) ⟨Nat.le_of_ble_eq_true rfl, Nat.le_of_ble_eq_true rfl⟩ dX8_levelOf_21 (fun r1 u H locs hw hP hD hS => ?_)
  try dsimp only at hw
  have w2 := hw
  have hP : va_P D vwCl [(a_T, .inr (9, [.ref a_T_heights, .ref a_T_woods, .ref a_T_treesLow, .ref a_T_treesHigh, .ref a_T_worst, .ref a_T_best, .int (nI v_T_width), .int (nI v_T_height), .int v_T_bending])), (a_T_heights, .inl (K 0, 256, .inl f_T_heights)), (a_T_woods, .inl (K 0, 256, .inl f_T_woods)), (a_T_treesLow, .inl (K 0, 4, .inl f_T_treesLow)), (a_T_treesHigh, .inl (K 0, 4, .inl f_T_treesHigh)), (a_T_worst, .inl (K 0, 24, .inl f_T_worst)), (a_T_best, .inl (K 0, 24, .inl f_T_best)), (a_P_cells, .inl (K 0, 12, .inl f_P_cells)), (a_P_lows, .inl (K 0, 12, .inl f_P_lows)), (a_P_highs, .inl (K 0, 12, .inl f_P_highs)), (a_S, .inr (8, [.ref a_T, .ref a_P])), (a_P, .inr (4, [.ref a_T, .ref a_P_xs, .ref a_P_ys, .ref a_P_cells, .ref a_P_lows, .ref a_P_highs, .ref a_P_states, .ref a_P_men, .ref a_P_stores, .int (nI v_P_size)])), (a_P_xs, .inl (K 0, 12, .inl f_P_xs)), (a_P_ys, .inl (K 0, 12, .inl f_P_ys))] H := hP
  have hD := uDPJ hP hD
  rcases w2 with rfl | rfl
  · refine lv_if_eq (tgt := 39) hx hb dX8_levelOf_24 (by decide) (fun _ => ?_) (fun h9 => absurd (by decide) h9)
    refine lv_aload_n hx hb dX8_levelOf_39 rfl (lv_at hl 1 rfl) ?_
    refine lv_pc (q := 40) rfl ?_
    refine lv_iload_n hx hb dX8_levelOf_40 rfl (lv_at hl 2 rfl) ?_
    refine lv_iload_n hx hb dX8_levelOf_41 rfl (lv_at hl 3 rfl) ?_
    refine lv_aload_n hx hb dX8_levelOf_42 rfl (lv_at hl 1 rfl) ?_
    refine uGet (ci := 8) (C := RX8) (T := TX8) (N := 2) (v := .ref a_T) B inlX8 hP 10 rfl rfl 0 rfl mfl_X8_9 rfl rfl dX8_levelOf_43 ?_
    refine uGet (ci := 9) (C := RX9) (T := TX9) (N := 9) (v := .ref a_T_best) B inlX9 hP 0 rfl rfl 5 rfl mfl_X8_79 rfl rfl dX8_levelOf_46 ?_
    refine lv_iload hx hb dX8_levelOf_49 (lv_at hl 0 rfl) ?_
    refine lv_pc (q := 51) rfl ?_
    refine uIald (i := (nI ((x2 * 2) + x3))) (j := (x2 * 2) + x3) B hP 6 rfl (nI_in (by omega) (by omega)) (nI_clamp (by omega)) dX8_levelOf_51 ?_
    refine uVi (As := [.int (nI x0), .int (nI x1), .int (f_T_best ((x2 * 2) + x3))]) (rest := []) (wr := [(a_T, .inr (9, [.ref a_T_heights, .ref a_T_woods, .ref a_T_treesLow, .ref a_T_treesHigh, .ref a_T_worst, .ref a_T_best, .int (nI v_T_width), .int (nI v_T_height), .int v_T_bending])), (a_T_heights, .inl (K 0, 256, .inl f_T_heights)), (a_T_woods, .inl (K 0, 256, .inl f_T_woods)), (a_T_treesLow, .inl (K 0, 4, .inl f_T_treesLow)), (a_T_treesHigh, .inl (K 0, 4, .inl f_T_treesHigh)), (a_T_worst, .inl (K 0, 24, .inl f_T_worst)), (a_T_best, .inl (K 0, 24, .inl f_T_best)), (a_P_cells, .inl (K 0, 12, .inl f_P_cells)), (a_P_lows, .inl (K 0, 12, .inl f_P_lows)), (a_P_highs, .inl (K 0, 12, .inl f_P_highs))]) [(a_S, .inr (8, [.ref a_T, .ref a_P])), (a_P, .inr (4, [.ref a_T, .ref a_P_xs, .ref a_P_ys, .ref a_P_cells, .ref a_P_lows, .ref a_P_highs, .ref a_P_states, .ref a_P_men, .ref a_P_stores, .int (nI v_P_size)])), (a_P_xs, .inl (K 0, 12, .inl f_P_xs)), (a_P_ys, .inl (K 0, 12, .inl f_P_ys))] B hl.1 hP hD hS [10, 11, 12, 13] [0, 1, 2, 3, 4, 5, 6, 7, 8, 9] rfl rfl rfl (wX8_reaches l D K _ a_S a_P v_P_size a_P_xs f_P_xs a_P_ys f_P_ys a_T a_P_cells a_P_lows a_P_highs a_P_states a_P_men a_P_stores x0 x1 (f_T_best ((x2 * 2) + x3)) (by omega) r_P_xs r_P_ys (by omega) (by omega)) wd_X8_reaches mml_X8_71 rfl rfl rfl rfl ⟨Nat.le_of_ble_eq_true rfl, Nat.le_of_ble_eq_true rfl⟩ (Nat.le_of_ble_eq_true rfl) ⟨Nat.le_of_ble_eq_true rfl, Nat.le_of_ble_eq_true rfl⟩ dX8_levelOf_52 (fun r3 u H locs hw hP hD hS => ?_)
    try dsimp only at hw
    have w4 := hw
    have hP : va_P D vwCl [(a_T, .inr (9, [.ref a_T_heights, .ref a_T_woods, .ref a_T_treesLow, .ref a_T_treesHigh, .ref a_T_worst, .ref a_T_best, .int (nI v_T_width), .int (nI v_T_height), .int v_T_bending])), (a_T_heights, .inl (K 0, 256, .inl f_T_heights)), (a_T_woods, .inl (K 0, 256, .inl f_T_woods)), (a_T_treesLow, .inl (K 0, 4, .inl f_T_treesLow)), (a_T_treesHigh, .inl (K 0, 4, .inl f_T_treesHigh)), (a_T_worst, .inl (K 0, 24, .inl f_T_worst)), (a_T_best, .inl (K 0, 24, .inl f_T_best)), (a_P_cells, .inl (K 0, 12, .inl f_P_cells)), (a_P_lows, .inl (K 0, 12, .inl f_P_lows)), (a_P_highs, .inl (K 0, 12, .inl f_P_highs)), (a_S, .inr (8, [.ref a_T, .ref a_P])), (a_P, .inr (4, [.ref a_T, .ref a_P_xs, .ref a_P_ys, .ref a_P_cells, .ref a_P_lows, .ref a_P_highs, .ref a_P_states, .ref a_P_men, .ref a_P_stores, .int (nI v_P_size)])), (a_P_xs, .inl (K 0, 12, .inl f_P_xs)), (a_P_ys, .inl (K 0, 12, .inl f_P_ys))] H := hP
    have hD := uDPJ hP hD
    rcases w4 with rfl | rfl
    · refine lv_if_eq (tgt := 72) hx hb dX8_levelOf_55 (by decide) (fun _ => ?_) (fun h9 => absurd (by decide) h9)
      refine lv_iconst (v := 0) hx hb dX8_levelOf_72 (by decide) ?_
      exact uRi () B trivial (uSub hP [10, 0, 1, 2, 3, 4, 5, 6, 11, 12, 13, 7, 8, 9] rfl) (hD.sub [10, 0, 1, 2, 3, 4, 5, 6, 11, 12, 13, 7, 8, 9] rfl rfl) hS dX8_levelOf_73
    refine lv_if_eq (tgt := 72) hx hb dX8_levelOf_55 (by decide) (fun h9 => absurd h9 (by decide)) (fun _ => ?_)
    refine lv_aload_n hx hb dX8_levelOf_58 rfl (lv_at hl 1 rfl) ?_
    refine lv_iload_n hx hb dX8_levelOf_59 rfl (lv_at hl 2 rfl) ?_
    refine lv_iload_n hx hb dX8_levelOf_60 rfl (lv_at hl 3 rfl) ?_
    refine lv_pc (q := 61) rfl ?_
    refine lv_iconst (v := 0) hx hb dX8_levelOf_61 (by decide) ?_
    refine uViJ (As := [.int (nI x0), .int (nI x1), .int 0]) (rest := []) (wr := [(a_T_worst, .inl (K 0, 24, .inl f_T_worst)), (a_T_best, .inl (K 0, 24, .inl f_T_best))]) (wX8_firstShut l D K _ a_S a_T v_T_width v_T_height v_T_bending a_T_heights f_T_heights a_T_woods f_T_woods a_T_treesLow f_T_treesLow a_T_treesHigh f_T_treesHigh a_P v_P_size a_P_xs f_P_xs a_P_ys f_P_ys a_P_cells f_P_cells a_P_lows f_P_lows a_P_highs f_P_highs a_T_worst a_T_best a_P_states a_P_men a_P_stores x0 x1 0 (by omega) (by omega) (by omega) (by omega) r_T_woods (by omega) r_P_xs r_P_ys r_P_cells (by omega) (by omega) (by decide)) B hl.1 hP hD hS [10, 0, 1, 2, 3, 4, 11, 12, 13, 7, 8, 9] [5, 6] rfl rfl rfl wd_X8_firstShut mml_X8_75 rfl rfl rfl rfl ⟨Nat.le_of_ble_eq_true rfl, Nat.le_of_ble_eq_true rfl⟩ (Nat.le_of_ble_eq_true rfl) ⟨Nat.le_of_ble_eq_true rfl, Nat.le_of_ble_eq_true rfl⟩ dX8_levelOf_62 (fun r5 u H locs hw hP hD hS => ?_)
    try dsimp only at hw
    have w6 := hw
    have hP : va_P D vwCl [(a_T_worst, .inl (K 0, 24, .inl f_T_worst)), (a_T_best, .inl (K 0, 24, .inl f_T_best)), (a_S, .inr (8, [.ref a_T, .ref a_P])), (a_T, .inr (9, [.ref a_T_heights, .ref a_T_woods, .ref a_T_treesLow, .ref a_T_treesHigh, .ref a_T_worst, .ref a_T_best, .int (nI v_T_width), .int (nI v_T_height), .int v_T_bending])), (a_T_heights, .inl (K 0, 256, .inl f_T_heights)), (a_T_woods, .inl (K 0, 256, .inl f_T_woods)), (a_T_treesLow, .inl (K 0, 4, .inl f_T_treesLow)), (a_T_treesHigh, .inl (K 0, 4, .inl f_T_treesHigh)), (a_P, .inr (4, [.ref a_T, .ref a_P_xs, .ref a_P_ys, .ref a_P_cells, .ref a_P_lows, .ref a_P_highs, .ref a_P_states, .ref a_P_men, .ref a_P_stores, .int (nI v_P_size)])), (a_P_xs, .inl (K 0, 12, .inl f_P_xs)), (a_P_ys, .inl (K 0, 12, .inl f_P_ys)), (a_P_cells, .inl (K 0, 12, .inl f_P_cells)), (a_P_lows, .inl (K 0, 12, .inl f_P_lows)), (a_P_highs, .inl (K 0, 12, .inl f_P_highs))] H := hP
    have hD := uDPJ hP hD
    obtain ⟨a7, ha7, ea7⟩ := w6
    refine lv_fixi (y := (nI a7)) ea7 ?_
    refine lv_if_ne (tgt := 72) hx hb dX8_levelOf_65 (by decide) (fun c8 => ?_) (fun c8 => ?_)
    · have k_8 : ¬ a7 = 0 := fun h9 => c8 ((nI_eq (a := a7) (b := 0) (by omega) (by omega)).mpr h9)
      refine lv_iconst (v := 0) hx hb dX8_levelOf_72 (by decide) ?_
      exact uRi () B trivial (uSub hP [2, 3, 4, 5, 6, 7, 0, 1, 8, 9, 10, 11, 12, 13] rfl) (hD.sub [2, 3, 4, 5, 6, 7, 0, 1, 8, 9, 10, 11, 12, 13] rfl rfl) hS dX8_levelOf_73
    have k_8 : a7 = 0 := (nI_eq (a := a7) (b := 0) (by omega) (by omega)).mp c8
    refine lv_iconst (v := 1) hx hb dX8_levelOf_68 (by decide) ?_
    refine lv_goto (tgt := 73) hx hb dX8_levelOf_69 (by decide) ?_
    exact uRi () B trivial (uSub hP [2, 3, 4, 5, 6, 7, 0, 1, 8, 9, 10, 11, 12, 13] rfl) (hD.sub [2, 3, 4, 5, 6, 7, 0, 1, 8, 9, 10, 11, 12, 13] rfl rfl) hS dX8_levelOf_73
  refine lv_if_eq (tgt := 39) hx hb dX8_levelOf_24 (by decide) (fun h9 => absurd h9 (by decide)) (fun _ => ?_)
  refine lv_aload_n hx hb dX8_levelOf_27 rfl (lv_at hl 1 rfl) ?_
  refine lv_pc (q := 28) rfl ?_
  refine lv_iload_n hx hb dX8_levelOf_28 rfl (lv_at hl 2 rfl) ?_
  refine lv_iload_n hx hb dX8_levelOf_29 rfl (lv_at hl 3 rfl) ?_
  refine lv_iconst (v := 1) hx hb dX8_levelOf_30 (by decide) ?_
  refine uViJ (As := [.int (nI x0), .int (nI x1), .int 1]) (rest := []) (wr := [(a_T_worst, .inl (K 0, 24, .inl f_T_worst)), (a_T_best, .inl (K 0, 24, .inl f_T_best))]) (wX8_firstShut l D K _ a_S a_T v_T_width v_T_height v_T_bending a_T_heights f_T_heights a_T_woods f_T_woods a_T_treesLow f_T_treesLow a_T_treesHigh f_T_treesHigh a_P v_P_size a_P_xs f_P_xs a_P_ys f_P_ys a_P_cells f_P_cells a_P_lows f_P_lows a_P_highs f_P_highs a_T_worst a_T_best a_P_states a_P_men a_P_stores x0 x1 1 (by omega) (by omega) (by omega) (by omega) r_T_woods (by omega) r_P_xs r_P_ys r_P_cells (by omega) (by omega) (by decide)) B hl.1 hP hD hS [10, 0, 1, 2, 3, 4, 11, 12, 13, 7, 8, 9] [5, 6] rfl rfl rfl wd_X8_firstShut mml_X8_75 rfl rfl rfl rfl ⟨Nat.le_of_ble_eq_true rfl, Nat.le_of_ble_eq_true rfl⟩ (Nat.le_of_ble_eq_true rfl) ⟨Nat.le_of_ble_eq_true rfl, Nat.le_of_ble_eq_true rfl⟩ dX8_levelOf_31 (fun r9 u H locs hw hP hD hS => ?_)
  try dsimp only at hw
  have w10 := hw
  have hP : va_P D vwCl [(a_T_worst, .inl (K 0, 24, .inl f_T_worst)), (a_T_best, .inl (K 0, 24, .inl f_T_best)), (a_S, .inr (8, [.ref a_T, .ref a_P])), (a_T, .inr (9, [.ref a_T_heights, .ref a_T_woods, .ref a_T_treesLow, .ref a_T_treesHigh, .ref a_T_worst, .ref a_T_best, .int (nI v_T_width), .int (nI v_T_height), .int v_T_bending])), (a_T_heights, .inl (K 0, 256, .inl f_T_heights)), (a_T_woods, .inl (K 0, 256, .inl f_T_woods)), (a_T_treesLow, .inl (K 0, 4, .inl f_T_treesLow)), (a_T_treesHigh, .inl (K 0, 4, .inl f_T_treesHigh)), (a_P, .inr (4, [.ref a_T, .ref a_P_xs, .ref a_P_ys, .ref a_P_cells, .ref a_P_lows, .ref a_P_highs, .ref a_P_states, .ref a_P_men, .ref a_P_stores, .int (nI v_P_size)])), (a_P_xs, .inl (K 0, 12, .inl f_P_xs)), (a_P_ys, .inl (K 0, 12, .inl f_P_ys)), (a_P_cells, .inl (K 0, 12, .inl f_P_cells)), (a_P_lows, .inl (K 0, 12, .inl f_P_lows)), (a_P_highs, .inl (K 0, 12, .inl f_P_highs))] H := hP
  have hD := uDPJ hP hD
  obtain ⟨a11, ha11, ea11⟩ := w10
  refine lv_fixi (y := (nI a11)) ea11 ?_
  refine lv_if_ne (tgt := 39) hx hb dX8_levelOf_34 (by decide) (fun c12 => ?_) (fun c12 => ?_)
  · have k_12 : ¬ a11 = 0 := fun h9 => c12 ((nI_eq (a := a11) (b := 0) (by omega) (by omega)).mpr h9)
    refine lv_aload_n hx hb dX8_levelOf_39 rfl (lv_at hl 1 rfl) ?_
    refine lv_pc (q := 40) rfl ?_
    refine lv_iload_n hx hb dX8_levelOf_40 rfl (lv_at hl 2 rfl) ?_
    refine lv_iload_n hx hb dX8_levelOf_41 rfl (lv_at hl 3 rfl) ?_
    refine lv_aload_n hx hb dX8_levelOf_42 rfl (lv_at hl 1 rfl) ?_
    refine uGet (ci := 8) (C := RX8) (T := TX8) (N := 2) (v := .ref a_T) B inlX8 hP 2 rfl rfl 0 rfl mfl_X8_9 rfl rfl dX8_levelOf_43 ?_
    refine uGet (ci := 9) (C := RX9) (T := TX9) (N := 9) (v := .ref a_T_best) B inlX9 hP 3 rfl rfl 5 rfl mfl_X8_79 rfl rfl dX8_levelOf_46 ?_
    refine lv_iload hx hb dX8_levelOf_49 (lv_at hl 0 rfl) ?_
    refine lv_pc (q := 51) rfl ?_
    refine uIald (i := (nI ((x2 * 2) + x3))) (j := (x2 * 2) + x3) B hP 1 rfl (nI_in (by omega) (by omega)) (nI_clamp (by omega)) dX8_levelOf_51 ?_
    refine uVi (As := [.int (nI x0), .int (nI x1), .int (f_T_best ((x2 * 2) + x3))]) (rest := []) (wr := [(a_T_worst, .inl (K 0, 24, .inl f_T_worst)), (a_T_best, .inl (K 0, 24, .inl f_T_best)), (a_T, .inr (9, [.ref a_T_heights, .ref a_T_woods, .ref a_T_treesLow, .ref a_T_treesHigh, .ref a_T_worst, .ref a_T_best, .int (nI v_T_width), .int (nI v_T_height), .int v_T_bending])), (a_T_heights, .inl (K 0, 256, .inl f_T_heights)), (a_T_woods, .inl (K 0, 256, .inl f_T_woods)), (a_T_treesLow, .inl (K 0, 4, .inl f_T_treesLow)), (a_T_treesHigh, .inl (K 0, 4, .inl f_T_treesHigh)), (a_P_cells, .inl (K 0, 12, .inl f_P_cells)), (a_P_lows, .inl (K 0, 12, .inl f_P_lows)), (a_P_highs, .inl (K 0, 12, .inl f_P_highs))]) [(a_S, .inr (8, [.ref a_T, .ref a_P])), (a_P, .inr (4, [.ref a_T, .ref a_P_xs, .ref a_P_ys, .ref a_P_cells, .ref a_P_lows, .ref a_P_highs, .ref a_P_states, .ref a_P_men, .ref a_P_stores, .int (nI v_P_size)])), (a_P_xs, .inl (K 0, 12, .inl f_P_xs)), (a_P_ys, .inl (K 0, 12, .inl f_P_ys))] B hl.1 hP hD hS [2, 8, 9, 10] [0, 1, 3, 4, 5, 6, 7, 11, 12, 13] rfl rfl rfl (wX8_reaches l D K _ a_S a_P v_P_size a_P_xs f_P_xs a_P_ys f_P_ys a_T a_P_cells a_P_lows a_P_highs a_P_states a_P_men a_P_stores x0 x1 (f_T_best ((x2 * 2) + x3)) (by omega) r_P_xs r_P_ys (by omega) (by omega)) wd_X8_reaches mml_X8_71 rfl rfl rfl rfl ⟨Nat.le_of_ble_eq_true rfl, Nat.le_of_ble_eq_true rfl⟩ (Nat.le_of_ble_eq_true rfl) ⟨Nat.le_of_ble_eq_true rfl, Nat.le_of_ble_eq_true rfl⟩ dX8_levelOf_52 (fun r13 u H locs hw hP hD hS => ?_)
    try dsimp only at hw
    have w14 := hw
    have hP : va_P D vwCl [(a_T_worst, .inl (K 0, 24, .inl f_T_worst)), (a_T_best, .inl (K 0, 24, .inl f_T_best)), (a_T, .inr (9, [.ref a_T_heights, .ref a_T_woods, .ref a_T_treesLow, .ref a_T_treesHigh, .ref a_T_worst, .ref a_T_best, .int (nI v_T_width), .int (nI v_T_height), .int v_T_bending])), (a_T_heights, .inl (K 0, 256, .inl f_T_heights)), (a_T_woods, .inl (K 0, 256, .inl f_T_woods)), (a_T_treesLow, .inl (K 0, 4, .inl f_T_treesLow)), (a_T_treesHigh, .inl (K 0, 4, .inl f_T_treesHigh)), (a_P_cells, .inl (K 0, 12, .inl f_P_cells)), (a_P_lows, .inl (K 0, 12, .inl f_P_lows)), (a_P_highs, .inl (K 0, 12, .inl f_P_highs)), (a_S, .inr (8, [.ref a_T, .ref a_P])), (a_P, .inr (4, [.ref a_T, .ref a_P_xs, .ref a_P_ys, .ref a_P_cells, .ref a_P_lows, .ref a_P_highs, .ref a_P_states, .ref a_P_men, .ref a_P_stores, .int (nI v_P_size)])), (a_P_xs, .inl (K 0, 12, .inl f_P_xs)), (a_P_ys, .inl (K 0, 12, .inl f_P_ys))] H := hP
    have hD := uDPJ hP hD
    rcases w14 with rfl | rfl
    · refine lv_if_eq (tgt := 72) hx hb dX8_levelOf_55 (by decide) (fun _ => ?_) (fun h9 => absurd (by decide) h9)
      refine lv_iconst (v := 0) hx hb dX8_levelOf_72 (by decide) ?_
      exact uRi () B trivial (uSub hP [10, 2, 3, 4, 5, 6, 0, 1, 11, 12, 13, 7, 8, 9] rfl) (hD.sub [10, 2, 3, 4, 5, 6, 0, 1, 11, 12, 13, 7, 8, 9] rfl rfl) hS dX8_levelOf_73
    refine lv_if_eq (tgt := 72) hx hb dX8_levelOf_55 (by decide) (fun h9 => absurd h9 (by decide)) (fun _ => ?_)
    refine lv_aload_n hx hb dX8_levelOf_58 rfl (lv_at hl 1 rfl) ?_
    refine lv_iload_n hx hb dX8_levelOf_59 rfl (lv_at hl 2 rfl) ?_
    refine lv_iload_n hx hb dX8_levelOf_60 rfl (lv_at hl 3 rfl) ?_
    refine lv_pc (q := 61) rfl ?_
    refine lv_iconst (v := 0) hx hb dX8_levelOf_61 (by decide) ?_
    refine uViJ (As := [.int (nI x0), .int (nI x1), .int 0]) (rest := []) (wr := [(a_T_worst, .inl (K 0, 24, .inl f_T_worst)), (a_T_best, .inl (K 0, 24, .inl f_T_best))]) (wX8_firstShut l D K _ a_S a_T v_T_width v_T_height v_T_bending a_T_heights f_T_heights a_T_woods f_T_woods a_T_treesLow f_T_treesLow a_T_treesHigh f_T_treesHigh a_P v_P_size a_P_xs f_P_xs a_P_ys f_P_ys a_P_cells f_P_cells a_P_lows f_P_lows a_P_highs f_P_highs a_T_worst a_T_best a_P_states a_P_men a_P_stores x0 x1 0 (by omega) (by omega) (by omega) (by omega) r_T_woods (by omega) r_P_xs r_P_ys r_P_cells (by omega) (by omega) (by decide)) B hl.1 hP hD hS [10, 2, 3, 4, 5, 6, 11, 12, 13, 7, 8, 9] [0, 1] rfl rfl rfl wd_X8_firstShut mml_X8_75 rfl rfl rfl rfl ⟨Nat.le_of_ble_eq_true rfl, Nat.le_of_ble_eq_true rfl⟩ (Nat.le_of_ble_eq_true rfl) ⟨Nat.le_of_ble_eq_true rfl, Nat.le_of_ble_eq_true rfl⟩ dX8_levelOf_62 (fun r15 u H locs hw hP hD hS => ?_)
    try dsimp only at hw
    have w16 := hw
    have hP : va_P D vwCl [(a_T_worst, .inl (K 0, 24, .inl f_T_worst)), (a_T_best, .inl (K 0, 24, .inl f_T_best)), (a_S, .inr (8, [.ref a_T, .ref a_P])), (a_T, .inr (9, [.ref a_T_heights, .ref a_T_woods, .ref a_T_treesLow, .ref a_T_treesHigh, .ref a_T_worst, .ref a_T_best, .int (nI v_T_width), .int (nI v_T_height), .int v_T_bending])), (a_T_heights, .inl (K 0, 256, .inl f_T_heights)), (a_T_woods, .inl (K 0, 256, .inl f_T_woods)), (a_T_treesLow, .inl (K 0, 4, .inl f_T_treesLow)), (a_T_treesHigh, .inl (K 0, 4, .inl f_T_treesHigh)), (a_P, .inr (4, [.ref a_T, .ref a_P_xs, .ref a_P_ys, .ref a_P_cells, .ref a_P_lows, .ref a_P_highs, .ref a_P_states, .ref a_P_men, .ref a_P_stores, .int (nI v_P_size)])), (a_P_xs, .inl (K 0, 12, .inl f_P_xs)), (a_P_ys, .inl (K 0, 12, .inl f_P_ys)), (a_P_cells, .inl (K 0, 12, .inl f_P_cells)), (a_P_lows, .inl (K 0, 12, .inl f_P_lows)), (a_P_highs, .inl (K 0, 12, .inl f_P_highs))] H := hP
    have hD := uDPJ hP hD
    obtain ⟨a17, ha17, ea17⟩ := w16
    refine lv_fixi (y := (nI a17)) ea17 ?_
    refine lv_if_ne (tgt := 72) hx hb dX8_levelOf_65 (by decide) (fun c18 => ?_) (fun c18 => ?_)
    · have k_18 : ¬ a17 = 0 := fun h9 => c18 ((nI_eq (a := a17) (b := 0) (by omega) (by omega)).mpr h9)
      refine lv_iconst (v := 0) hx hb dX8_levelOf_72 (by decide) ?_
      exact uRi () B trivial (uSub hP [2, 3, 4, 5, 6, 7, 0, 1, 8, 9, 10, 11, 12, 13] rfl) (hD.sub [2, 3, 4, 5, 6, 7, 0, 1, 8, 9, 10, 11, 12, 13] rfl rfl) hS dX8_levelOf_73
    have k_18 : a17 = 0 := (nI_eq (a := a17) (b := 0) (by omega) (by omega)).mp c18
    refine lv_iconst (v := 1) hx hb dX8_levelOf_68 (by decide) ?_
    refine lv_goto (tgt := 73) hx hb dX8_levelOf_69 (by decide) ?_
    exact uRi () B trivial (uSub hP [2, 3, 4, 5, 6, 7, 0, 1, 8, 9, 10, 11, 12, 13] rfl) (hD.sub [2, 3, 4, 5, 6, 7, 0, 1, 8, 9, 10, 11, 12, 13] rfl rfl) hS dX8_levelOf_73
  have k_12 : a11 = 0 := (nI_eq (a := a11) (b := 0) (by omega) (by omega)).mp c12
  refine lv_iconst (v := 2) hx hb dX8_levelOf_37 (by decide) ?_
  refine lv_pc (q := 38) rfl ?_
  exact uRi () B trivial (uSub hP [2, 3, 4, 5, 6, 7, 0, 1, 8, 9, 10, 11, 12, 13] rfl) (hD.sub [2, 3, 4, 5, 6, 7, 0, 1, 8, 9, 10, 11, 12, 13] rfl rfl) hS dX8_levelOf_38
def qwX8_linkOf (a_S : Nat) (a_T : Nat) (v_T_width : Nat) (v_T_height : Nat) (v_T_bending : Int32) (a_T_heights : Nat) (f_T_heights : Nat → Int32) (a_T_woods : Nat) (f_T_woods : Nat → Int32) (a_T_treesLow : Nat) (f_T_treesLow : Nat → Int32) (a_T_treesHigh : Nat) (f_T_treesHigh : Nat → Int32) (a_T_worst : Nat) (f_T_worst : Nat → Int32) (a_T_best : Nat) (f_T_best : Nat → Int32) (a_P : Nat) (v_P_size : Nat) (a_P_xs : Nat) (f_P_xs : Nat → Int32) (a_P_ys : Nat) (f_P_ys : Nat → Int32) (a_P_cells : Nat) (f_P_cells : Nat → Int32) (a_P_lows : Nat) (f_P_lows : Nat → Int32) (a_P_highs : Nat) (f_P_highs : Nat → Int32) (a_P_states : Nat) (a_P_men : Nat) (a_P_stores : Nat) (x0 : Nat) (x1 : Nat) (x2 : Nat) (x3 : Nat) : Int32 → (Unit) → Prop := (fun (r : Int32) (u : Unit) => True)
def vwX8_linkOf (K : Nat → ClassId) (a_S : Nat) (a_T : Nat) (v_T_width : Nat) (v_T_height : Nat) (v_T_bending : Int32) (a_T_heights : Nat) (f_T_heights : Nat → Int32) (a_T_woods : Nat) (f_T_woods : Nat → Int32) (a_T_treesLow : Nat) (f_T_treesLow : Nat → Int32) (a_T_treesHigh : Nat) (f_T_treesHigh : Nat → Int32) (a_T_worst : Nat) (f_T_worst : Nat → Int32) (a_T_best : Nat) (f_T_best : Nat → Int32) (a_P : Nat) (v_P_size : Nat) (a_P_xs : Nat) (f_P_xs : Nat → Int32) (a_P_ys : Nat) (f_P_ys : Nat → Int32) (a_P_cells : Nat) (f_P_cells : Nat → Int32) (a_P_lows : Nat) (f_P_lows : Nat → Int32) (a_P_highs : Nat) (f_P_highs : Nat → Int32) (a_P_states : Nat) (a_P_men : Nat) (a_P_stores : Nat) (x0 : Nat) (x1 : Nat) (x2 : Nat) (x3 : Nat) : (Unit) → va_W := (fun (u : Unit) => [(a_S, .inr (8, [.ref a_T, .ref a_P])), (a_T, .inr (9, [.ref a_T_heights, .ref a_T_woods, .ref a_T_treesLow, .ref a_T_treesHigh, .ref a_T_worst, .ref a_T_best, .int (nI v_T_width), .int (nI v_T_height), .int v_T_bending])), (a_T_heights, .inl (K 0, 256, .inl f_T_heights)), (a_T_woods, .inl (K 0, 256, .inl f_T_woods)), (a_T_treesLow, .inl (K 0, 4, .inl f_T_treesLow)), (a_T_treesHigh, .inl (K 0, 4, .inl f_T_treesHigh)), (a_T_worst, .inl (K 0, 24, .inl f_T_worst)), (a_T_best, .inl (K 0, 24, .inl f_T_best)), (a_P, .inr (4, [.ref a_T, .ref a_P_xs, .ref a_P_ys, .ref a_P_cells, .ref a_P_lows, .ref a_P_highs, .ref a_P_states, .ref a_P_men, .ref a_P_stores, .int (nI v_P_size)])), (a_P_xs, .inl (K 0, 12, .inl f_P_xs)), (a_P_ys, .inl (K 0, 12, .inl f_P_ys)), (a_P_cells, .inl (K 0, 12, .inl f_P_cells)), (a_P_lows, .inl (K 0, 12, .inl f_P_lows)), (a_P_highs, .inl (K 0, 12, .inl f_P_highs))])
set_option maxHeartbeats 4000000 in
set_option maxRecDepth 100000 in
theorem wX8_linkOf (l : Launch) (D : va_G) (K : Nat → ClassId) (sz : Nat) (a_S : Nat) (a_T : Nat) (v_T_width : Nat) (v_T_height : Nat) (v_T_bending : Int32) (a_T_heights : Nat) (f_T_heights : Nat → Int32) (a_T_woods : Nat) (f_T_woods : Nat → Int32) (a_T_treesLow : Nat) (f_T_treesLow : Nat → Int32) (a_T_treesHigh : Nat) (f_T_treesHigh : Nat → Int32) (a_T_worst : Nat) (f_T_worst : Nat → Int32) (a_T_best : Nat) (f_T_best : Nat → Int32) (a_P : Nat) (v_P_size : Nat) (a_P_xs : Nat) (f_P_xs : Nat → Int32) (a_P_ys : Nat) (f_P_ys : Nat → Int32) (a_P_cells : Nat) (f_P_cells : Nat → Int32) (a_P_lows : Nat) (f_P_lows : Nat → Int32) (a_P_highs : Nat) (f_P_highs : Nat → Int32) (a_P_states : Nat) (a_P_men : Nat) (a_P_stores : Nat) (x0 : Nat) (x1 : Nat) (x2 : Nat) (x3 : Nat) (hv_T_width : v_T_width ≤ 16) (gv_T_width : 4 ≤ v_T_width) (hv_T_height : v_T_height ≤ 16) (gv_T_height : 4 ≤ v_T_height) (r_T_woods : uRg f_T_woods 0 3) (hv_P_size : v_P_size ≤ 12) (r_P_xs : uRg f_P_xs 0 15) (r_P_ys : uRg f_P_ys 0 15) (r_P_cells : uRg f_P_cells 0 255) (hx0 : x0 < v_P_size) (hx1 : x1 < v_P_size) (hx2 : x2 < 12) (hx3 : x3 < 2) : uMi l yX8_linkOf cX8_linkOf 6 (some .int) { frames := 4, cells := 0, slots := 0, locals := 103 } [.ref a_S, .int (nI x0), .int (nI x1), .int (nI x2), .int (nI x3)] D K [(a_S, .inr (8, [.ref a_T, .ref a_P])), (a_T, .inr (9, [.ref a_T_heights, .ref a_T_woods, .ref a_T_treesLow, .ref a_T_treesHigh, .ref a_T_worst, .ref a_T_best, .int (nI v_T_width), .int (nI v_T_height), .int v_T_bending])), (a_T_heights, .inl (K 0, 256, .inl f_T_heights)), (a_T_woods, .inl (K 0, 256, .inl f_T_woods)), (a_T_treesLow, .inl (K 0, 4, .inl f_T_treesLow)), (a_T_treesHigh, .inl (K 0, 4, .inl f_T_treesHigh)), (a_T_worst, .inl (K 0, 24, .inl f_T_worst)), (a_T_best, .inl (K 0, 24, .inl f_T_best)), (a_P, .inr (4, [.ref a_T, .ref a_P_xs, .ref a_P_ys, .ref a_P_cells, .ref a_P_lows, .ref a_P_highs, .ref a_P_states, .ref a_P_men, .ref a_P_stores, .int (nI v_P_size)])), (a_P_xs, .inl (K 0, 12, .inl f_P_xs)), (a_P_ys, .inl (K 0, 12, .inl f_P_ys)), (a_P_cells, .inl (K 0, 12, .inl f_P_cells)), (a_P_lows, .inl (K 0, 12, .inl f_P_lows)), (a_P_highs, .inl (K 0, 12, .inl f_P_highs))] sz (qwX8_linkOf a_S a_T v_T_width v_T_height v_T_bending a_T_heights f_T_heights a_T_woods f_T_woods a_T_treesLow f_T_treesLow a_T_treesHigh f_T_treesHigh a_T_worst f_T_worst a_T_best f_T_best a_P v_P_size a_P_xs f_P_xs a_P_ys f_P_ys a_P_cells f_P_cells a_P_lows f_P_lows a_P_highs f_P_highs a_P_states a_P_men a_P_stores x0 x1 x2 x3) (vwX8_linkOf K a_S a_T v_T_width v_T_height v_T_bending a_T_heights f_T_heights a_T_woods f_T_woods a_T_treesLow f_T_treesLow a_T_treesHigh f_T_treesHigh a_T_worst f_T_worst a_T_best f_T_best a_P v_P_size a_P_xs f_P_xs a_P_ys f_P_ys a_P_cells f_P_cells a_P_lows f_P_lows a_P_highs f_P_highs a_P_states a_P_men a_P_stores x0 x1 x2 x3) := by
  refine uMet (Qc := uQi D (qwX8_linkOf a_S a_T v_T_width v_T_height v_T_bending a_T_heights f_T_heights a_T_woods f_T_woods a_T_treesLow f_T_treesLow a_T_treesHigh f_T_treesHigh a_T_worst f_T_worst a_T_best f_T_best a_P v_P_size a_P_xs f_P_xs a_P_ys f_P_ys a_P_cells f_P_cells a_P_lows f_P_lows a_P_highs f_P_highs a_P_states a_P_men a_P_stores x0 x1 x2 x3) (vwX8_linkOf K a_S a_T v_T_width v_T_height v_T_bending a_T_heights f_T_heights a_T_woods f_T_woods a_T_treesLow f_T_treesLow a_T_treesHigh f_T_treesHigh a_T_worst f_T_worst a_T_best f_T_best a_P v_P_size a_P_xs f_P_xs a_P_ys f_P_ys a_P_cells f_P_cells a_P_lows f_P_lows a_P_highs f_P_highs a_P_states a_P_men a_P_stores x0 x1 x2 x3)) (ret := (some .int)) (by decide) (Nat.le_of_ble_eq_true rfl) ?_
  intro p e s m below meth c A ls hAe hsz B hP hD hS hl
  have hx := B.1
  have hb := B.2.1
  have hl : lv_has ls 6 [(0, .ref a_S), (1, .int (nI x0)), (2, .int (nI x1)), (3, .int (nI x2)), (4, .int (nI x3))] := hl
  refine lv_aload_n hx hb dX8_linkOf_0 rfl (lv_at hl 0 rfl) ?_
  refine lv_iload_n hx hb dX8_linkOf_1 rfl (lv_at hl 1 rfl) ?_
  refine lv_iload_n hx hb dX8_linkOf_2 rfl (lv_at hl 2 rfl) ?_
  refine lv_iload_n hx hb dX8_linkOf_3 rfl (lv_at hl 3 rfl) ?_
  refine lv_iload hx hb dX8_linkOf_4 (lv_at hl 4 rfl) ?_
  refine lv_pc (q := 6) rfl ?_
  refine uViJ (As := [.int (nI x0), .int (nI x1), .int (nI x2), .int (nI x3)]) (rest := []) (wr := []) (wX8_levelOf l D K _ a_S a_T v_T_width v_T_height v_T_bending a_T_heights f_T_heights a_T_woods f_T_woods a_T_treesLow f_T_treesLow a_T_treesHigh f_T_treesHigh a_T_worst f_T_worst a_T_best f_T_best a_P v_P_size a_P_xs f_P_xs a_P_ys f_P_ys a_P_cells f_P_cells a_P_lows f_P_lows a_P_highs f_P_highs a_P_states a_P_men a_P_stores x0 x1 x2 x3 (by omega) (by omega) (by omega) (by omega) r_T_woods (by omega) r_P_xs r_P_ys r_P_cells (by omega) (by omega) (by omega) (by omega)) B hl.1 hP hD hS [0, 1, 2, 3, 4, 5, 6, 7, 8, 9, 10, 11, 12, 13] [] rfl rfl rfl wd_X8_levelOf mml_X8_82 rfl rfl rfl rfl ⟨Nat.le_of_ble_eq_true rfl, Nat.le_of_ble_eq_true rfl⟩ (Nat.le_of_ble_eq_true rfl) ⟨Nat.le_of_ble_eq_true rfl, Nat.le_of_ble_eq_true rfl⟩ dX8_linkOf_6 (fun r1 u H locs hw hP hD hS => ?_)
  try dsimp only at hw
  have hP : va_P D vwCl [(a_S, .inr (8, [.ref a_T, .ref a_P])), (a_T, .inr (9, [.ref a_T_heights, .ref a_T_woods, .ref a_T_treesLow, .ref a_T_treesHigh, .ref a_T_worst, .ref a_T_best, .int (nI v_T_width), .int (nI v_T_height), .int v_T_bending])), (a_T_heights, .inl (K 0, 256, .inl f_T_heights)), (a_T_woods, .inl (K 0, 256, .inl f_T_woods)), (a_T_treesLow, .inl (K 0, 4, .inl f_T_treesLow)), (a_T_treesHigh, .inl (K 0, 4, .inl f_T_treesHigh)), (a_T_worst, .inl (K 0, 24, .inl f_T_worst)), (a_T_best, .inl (K 0, 24, .inl f_T_best)), (a_P, .inr (4, [.ref a_T, .ref a_P_xs, .ref a_P_ys, .ref a_P_cells, .ref a_P_lows, .ref a_P_highs, .ref a_P_states, .ref a_P_men, .ref a_P_stores, .int (nI v_P_size)])), (a_P_xs, .inl (K 0, 12, .inl f_P_xs)), (a_P_ys, .inl (K 0, 12, .inl f_P_ys)), (a_P_cells, .inl (K 0, 12, .inl f_P_cells)), (a_P_lows, .inl (K 0, 12, .inl f_P_lows)), (a_P_highs, .inl (K 0, 12, .inl f_P_highs))] H := hP
  have hD := uDPJ hP hD
  refine lv_istore (lv' := [(5, .int r1), (0, .ref a_S), (1, .int (nI x0)), (2, .int (nI x1)), (3, .int (nI x2)), (4, .int (nI x3))]) hx hb dX8_linkOf_9 hl (by decide) rfl (fun ls hl => ?_)
  refine lv_iload hx hb dX8_linkOf_11 (lv_at hl 0 rfl) ?_
  refine lv_if_ne (tgt := 20) hx hb dX8_linkOf_13 (by decide) (fun c2 => ?_) (fun c2 => ?_)
  · refine lv_iload hx hb dX8_linkOf_20 (lv_at hl 0 rfl) ?_
    refine lv_aload_n hx hb dX8_linkOf_22 rfl (lv_at hl 1 rfl) ?_
    refine lv_pc (q := 23) rfl ?_
    refine lv_iload_n hx hb dX8_linkOf_23 rfl (lv_at hl 3 rfl) ?_
    refine lv_iload_n hx hb dX8_linkOf_24 rfl (lv_at hl 2 rfl) ?_
    refine lv_iload_n hx hb dX8_linkOf_25 rfl (lv_at hl 4 rfl) ?_
    refine lv_iload hx hb dX8_linkOf_26 (lv_at hl 5 rfl) ?_
    refine uViJ (As := [.int (nI x1), .int (nI x0), .int (nI x2), .int (nI x3)]) (rest := [.int r1]) (wr := []) (wX8_levelOf l D K _ a_S a_T v_T_width v_T_height v_T_bending a_T_heights f_T_heights a_T_woods f_T_woods a_T_treesLow f_T_treesLow a_T_treesHigh f_T_treesHigh a_T_worst f_T_worst a_T_best f_T_best a_P v_P_size a_P_xs f_P_xs a_P_ys f_P_ys a_P_cells f_P_cells a_P_lows f_P_lows a_P_highs f_P_highs a_P_states a_P_men a_P_stores x1 x0 x2 x3 (by omega) (by omega) (by omega) (by omega) r_T_woods (by omega) r_P_xs r_P_ys r_P_cells (by omega) (by omega) (by omega) (by omega)) B hl.1 hP hD hS [0, 1, 2, 3, 4, 5, 6, 7, 8, 9, 10, 11, 12, 13] [] rfl rfl rfl wd_X8_levelOf mml_X8_82 rfl rfl rfl rfl ⟨Nat.le_of_ble_eq_true rfl, Nat.le_of_ble_eq_true rfl⟩ (Nat.le_of_ble_eq_true rfl) ⟨Nat.le_of_ble_eq_true rfl, Nat.le_of_ble_eq_true rfl⟩ dX8_linkOf_28 (fun r3 u H locs hw hP hD hS => ?_)
    try dsimp only at hw
    have hP : va_P D vwCl [(a_S, .inr (8, [.ref a_T, .ref a_P])), (a_T, .inr (9, [.ref a_T_heights, .ref a_T_woods, .ref a_T_treesLow, .ref a_T_treesHigh, .ref a_T_worst, .ref a_T_best, .int (nI v_T_width), .int (nI v_T_height), .int v_T_bending])), (a_T_heights, .inl (K 0, 256, .inl f_T_heights)), (a_T_woods, .inl (K 0, 256, .inl f_T_woods)), (a_T_treesLow, .inl (K 0, 4, .inl f_T_treesLow)), (a_T_treesHigh, .inl (K 0, 4, .inl f_T_treesHigh)), (a_T_worst, .inl (K 0, 24, .inl f_T_worst)), (a_T_best, .inl (K 0, 24, .inl f_T_best)), (a_P, .inr (4, [.ref a_T, .ref a_P_xs, .ref a_P_ys, .ref a_P_cells, .ref a_P_lows, .ref a_P_highs, .ref a_P_states, .ref a_P_men, .ref a_P_stores, .int (nI v_P_size)])), (a_P_xs, .inl (K 0, 12, .inl f_P_xs)), (a_P_ys, .inl (K 0, 12, .inl f_P_ys)), (a_P_cells, .inl (K 0, 12, .inl f_P_cells)), (a_P_lows, .inl (K 0, 12, .inl f_P_lows)), (a_P_highs, .inl (K 0, 12, .inl f_P_highs))] H := hP
    have hD := uDPJ hP hD
    refine uMin B hl.1 mml_X8_85 (Nat.le_of_ble_eq_true rfl) (Nat.le_of_ble_eq_true rfl) (Nat.le_of_ble_eq_true rfl) (Nat.le_of_ble_eq_true rfl) dX8_linkOf_31 ?_
    refine lv_pc (q := 34) rfl ?_
    exact uRi () B trivial (uSub hP [0, 1, 2, 3, 4, 5, 6, 7, 8, 9, 10, 11, 12, 13] rfl) (hD.sub [0, 1, 2, 3, 4, 5, 6, 7, 8, 9, 10, 11, 12, 13] rfl rfl) hS dX8_linkOf_34
  refine lv_iconst (v := 0) hx hb dX8_linkOf_16 (by decide) ?_
  refine lv_goto (tgt := 34) hx hb dX8_linkOf_17 (by decide) ?_
  refine lv_pc (q := 34) rfl ?_
  exact uRi () B trivial (uSub hP [0, 1, 2, 3, 4, 5, 6, 7, 8, 9, 10, 11, 12, 13] rfl) (hD.sub [0, 1, 2, 3, 4, 5, 6, 7, 8, 9, 10, 11, 12, 13] rfl rfl) hS dX8_linkOf_34

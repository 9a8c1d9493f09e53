def qwX0_nearestPair_vc (a_C : Nat) (v_C_postsThen : Nat) (a_P : Nat) (v_P_size : Nat) (a_P_cells : Nat) (f_P_cells : Nat → Int32) (a_P_states : Nat) (f_P_states : Nat → Int32) (a_P_stores : Nat) (f_P_stores : Nat → Int32) (a_C_lacks : Nat) (f_C_lacks : Nat → Int32) (a_C_costs : Nat) (f_C_costs : Nat → Option Nat) (a_C_c0 : Nat) (f_C_c0 : Nat → Int32) (a_C_c1 : Nat) (f_C_c1 : Nat → Int32) (a_C_c2 : Nat) (f_C_c2 : Nat → Int32) (a_C_c3 : Nat) (f_C_c3 : Nat → Int32) (a_C_c4 : Nat) (f_C_c4 : Nat → Int32) (a_C_c5 : Nat) (f_C_c5 : Nat → Int32) (a_C_c6 : Nat) (f_C_c6 : Nat → Int32) (a_C_c7 : Nat) (f_C_c7 : Nat → Int32) (a_C_c8 : Nat) (f_C_c8 : Nat → Int32) (a_C_c9 : Nat) (f_C_c9 : Nat → Int32) (a_C_c10 : Nat) (f_C_c10 : Nat → Int32) (a_C_c11 : Nat) (f_C_c11 : Nat → Int32) (a_T : Nat) (a_C_measured : Nat) (a_C_statesThen : Nat) (a_C_came : Nat) (a_C_firstFrom : Nat) (a_P_xs : Nat) (a_P_ys : Nat) (a_P_lows : Nat) (a_P_highs : Nat) (a_P_men : Nat) : Int32 → (Unit) → Prop := (fun (r : Int32) (u : Unit) => uwNp r v_P_size (uwCd (fun pY => f_P_states pY = 0) f_P_stores f_C_lacks) (fun aY bY => ([f_C_c0, f_C_c1, f_C_c2, f_C_c3, f_C_c4, f_C_c5, f_C_c6, f_C_c7, f_C_c8, f_C_c9, f_C_c10, f_C_c11] : List (Nat → Int32)).getD aY (fun _ => 0) (uN (f_P_cells bY))))
def vwX0_nearestPair_vc (K : Nat → ClassId) (a_C : Nat) (v_C_postsThen : Nat) (a_P : Nat) (v_P_size : Nat) (a_P_cells : Nat) (f_P_cells : Nat → Int32) (a_P_states : Nat) (f_P_states : Nat → Int32) (a_P_stores : Nat) (f_P_stores : Nat → Int32) (a_C_lacks : Nat) (f_C_lacks : Nat → Int32) (a_C_costs : Nat) (f_C_costs : Nat → Option Nat) (a_C_c0 : Nat) (f_C_c0 : Nat → Int32) (a_C_c1 : Nat) (f_C_c1 : Nat → Int32) (a_C_c2 : Nat) (f_C_c2 : Nat → Int32) (a_C_c3 : Nat) (f_C_c3 : Nat → Int32) (a_C_c4 : Nat) (f_C_c4 : Nat → Int32) (a_C_c5 : Nat) (f_C_c5 : Nat → Int32) (a_C_c6 : Nat) (f_C_c6 : Nat → Int32) (a_C_c7 : Nat) (f_C_c7 : Nat → Int32) (a_C_c8 : Nat) (f_C_c8 : Nat → Int32) (a_C_c9 : Nat) (f_C_c9 : Nat → Int32) (a_C_c10 : Nat) (f_C_c10 : Nat → Int32) (a_C_c11 : Nat) (f_C_c11 : Nat → Int32) (a_T : Nat) (a_C_measured : Nat) (a_C_statesThen : Nat) (a_C_came : Nat) (a_C_firstFrom : Nat) (a_P_xs : Nat) (a_P_ys : Nat) (a_P_lows : Nat) (a_P_highs : Nat) (a_P_men : Nat) : (Unit) → va_W := (fun (u : Unit) => [(a_C, .inr (0, [.ref a_T, .ref a_P, .ref a_C_costs, .ref a_C_measured, .ref a_C_statesThen, .ref a_C_came, .ref a_C_lacks, .ref a_C_firstFrom, .int (nI v_C_postsThen)])), (a_P, .inr (4, [.ref a_T, .ref a_P_xs, .ref a_P_ys, .ref a_P_cells, .ref a_P_lows, .ref a_P_highs, .ref a_P_states, .ref a_P_men, .ref a_P_stores, .int (nI v_P_size)])), (a_P_cells, .inl (K 0, 12, .inl f_P_cells)), (a_P_states, .inl (K 0, 12, .inl f_P_states)), (a_P_stores, .inl (K 0, 12, .inl f_P_stores)), (a_C_lacks, .inl (K 0, 12, .inl f_C_lacks)), (a_C_costs, .inl (K 3, 12, .inr (.inr (.inr (.inr f_C_costs))))), (a_C_c0, .inl (K 0, 256, .inl f_C_c0)), (a_C_c1, .inl (K 0, 256, .inl f_C_c1)), (a_C_c2, .inl (K 0, 256, .inl f_C_c2)), (a_C_c3, .inl (K 0, 256, .inl f_C_c3)), (a_C_c4, .inl (K 0, 256, .inl f_C_c4)), (a_C_c5, .inl (K 0, 256, .inl f_C_c5)), (a_C_c6, .inl (K 0, 256, .inl f_C_c6)), (a_C_c7, .inl (K 0, 256, .inl f_C_c7)), (a_C_c8, .inl (K 0, 256, .inl f_C_c8)), (a_C_c9, .inl (K 0, 256, .inl f_C_c9)), (a_C_c10, .inl (K 0, 256, .inl f_C_c10)), (a_C_c11, .inl (K 0, 256, .inl f_C_c11))])
set_option maxHeartbeats 4000000 in
set_option maxRecDepth 100000 in
theorem wX0_nearestPair_vc (l : Launch) (D : va_G) (K : Nat → ClassId) (sz : Nat) (a_C : Nat) (v_C_postsThen : Nat) (a_P : Nat) (v_P_size : Nat) (a_P_cells : Nat) (f_P_cells : Nat → Int32) (a_P_states : Nat) (f_P_states : Nat → Int32) (a_P_stores : Nat) (f_P_stores : Nat → Int32) (a_C_lacks : Nat) (f_C_lacks : Nat → Int32) (a_C_costs : Nat) (f_C_costs : Nat → Option Nat) (a_C_c0 : Nat) (f_C_c0 : Nat → Int32) (a_C_c1 : Nat) (f_C_c1 : Nat → Int32) (a_C_c2 : Nat) (f_C_c2 : Nat → Int32) (a_C_c3 : Nat) (f_C_c3 : Nat → Int32) (a_C_c4 : Nat) (f_C_c4 : Nat → Int32) (a_C_c5 : Nat) (f_C_c5 : Nat → Int32) (a_C_c6 : Nat) (f_C_c6 : Nat → Int32) (a_C_c7 : Nat) (f_C_c7 : Nat → Int32) (a_C_c8 : Nat) (f_C_c8 : Nat → Int32) (a_C_c9 : Nat) (f_C_c9 : Nat → Int32) (a_C_c10 : Nat) (f_C_c10 : Nat → Int32) (a_C_c11 : Nat) (f_C_c11 : Nat → Int32) (a_T : Nat) (a_C_measured : Nat) (a_C_statesThen : Nat) (a_C_came : Nat) (a_C_firstFrom : Nat) (a_P_xs : Nat) (a_P_ys : Nat) (a_P_lows : Nat) (a_P_highs : Nat) (a_P_men : Nat) (hv_C_postsThen : v_C_postsThen ≤ 12) (hv_P_size : v_P_size ≤ 12) (r_P_cells : uRg f_P_cells 0 255) (k_C_costs_0 : f_C_costs 0 = some a_C_c0) (k_C_costs_1 : f_C_costs 1 = some a_C_c1) (k_C_costs_2 : f_C_costs 2 = some a_C_c2) (k_C_costs_3 : f_C_costs 3 = some a_C_c3) (k_C_costs_4 : f_C_costs 4 = some a_C_c4) (k_C_costs_5 : f_C_costs 5 = some a_C_c5) (k_C_costs_6 : f_C_costs 6 = some a_C_c6) (k_C_costs_7 : f_C_costs 7 = some a_C_c7) (k_C_costs_8 : f_C_costs 8 = some a_C_c8) (k_C_costs_9 : f_C_costs 9 = some a_C_c9) (k_C_costs_10 : f_C_costs 10 = some a_C_c10) (k_C_costs_11 : f_C_costs 11 = some a_C_c11) (i_uwSn : uwNn f_P_stores 9999 v_P_size) (i_uwLn : uwNn f_C_lacks 4950 v_P_size) (i_uwLF : ∀ pY, pY < v_P_size → ¬ f_C_lacks pY = 0 → f_P_states pY = 0) (i_uwWb : uwWb f_P_states f_P_cells v_P_size [f_C_c0, f_C_c1, f_C_c2, f_C_c3, f_C_c4, f_C_c5, f_C_c6, f_C_c7, f_C_c8, f_C_c9, f_C_c10, f_C_c11]) : uMi l yX0_nearestPair cX0_nearestPair 6 (some .int) { frames := 1, cells := 0, slots := 0, locals := 21 } [.ref a_C] D K [(a_C, .inr (0, [.ref a_T, .ref a_P, .ref a_C_costs, .ref a_C_measured, .ref a_C_statesThen, .ref a_C_came, .ref a_C_lacks, .ref a_C_firstFrom, .int (nI v_C_postsThen)])), (a_P, .inr (4, [.ref a_T, .ref a_P_xs, .ref a_P_ys, .ref a_P_cells, .ref a_P_lows, .ref a_P_highs, .ref a_P_states, .ref a_P_men, .ref a_P_stores, .int (nI v_P_size)])), (a_P_cells, .inl (K 0, 12, .inl f_P_cells)), (a_P_states, .inl (K 0, 12, .inl f_P_states)), (a_P_stores, .inl (K 0, 12, .inl f_P_stores)), (a_C_lacks, .inl (K 0, 12, .inl f_C_lacks)), (a_C_costs, .inl (K 3, 12, .inr (.inr (.inr (.inr f_C_costs))))), (a_C_c0, .inl (K 0, 256, .inl f_C_c0)), (a_C_c1, .inl (K 0, 256, .inl f_C_c1)), (a_C_c2, .inl (K 0, 256, .inl f_C_c2)), (a_C_c3, .inl (K 0, 256, .inl f_C_c3)), (a_C_c4, .inl (K 0, 256, .inl f_C_c4)), (a_C_c5, .inl (K 0, 256, .inl f_C_c5)), (a_C_c6, .inl (K 0, 256, .inl f_C_c6)), (a_C_c7, .inl (K 0, 256, .inl f_C_c7)), (a_C_c8, .inl (K 0, 256, .inl f_C_c8)), (a_C_c9, .inl (K 0, 256, .inl f_C_c9)), (a_C_c10, .inl (K 0, 256, .inl f_C_c10)), (a_C_c11, .inl (K 0, 256, .inl f_C_c11))] sz (qwX0_nearestPair_vc a_C v_C_postsThen a_P v_P_size a_P_cells f_P_cells a_P_states f_P_states a_P_stores f_P_stores a_C_lacks f_C_lacks a_C_costs f_C_costs a_C_c0 f_C_c0 a_C_c1 f_C_c1 a_C_c2 f_C_c2 a_C_c3 f_C_c3 a_C_c4 f_C_c4 a_C_c5 f_C_c5 a_C_c6 f_C_c6 a_C_c7 f_C_c7 a_C_c8 f_C_c8 a_C_c9 f_C_c9 a_C_c10 f_C_c10 a_C_c11 f_C_c11 a_T a_C_measured a_C_statesThen a_C_came a_C_firstFrom a_P_xs a_P_ys a_P_lows a_P_highs a_P_men) (vwX0_nearestPair_vc K a_C v_C_postsThen a_P v_P_size a_P_cells f_P_cells a_P_states f_P_states a_P_stores f_P_stores a_C_lacks f_C_lacks a_C_costs f_C_costs a_C_c0 f_C_c0 a_C_c1 f_C_c1 a_C_c2 f_C_c2 a_C_c3 f_C_c3 a_C_c4 f_C_c4 a_C_c5 f_C_c5 a_C_c6 f_C_c6 a_C_c7 f_C_c7 a_C_c8 f_C_c8 a_C_c9 f_C_c9 a_C_c10 f_C_c10 a_C_c11 f_C_c11 a_T a_C_measured a_C_statesThen a_C_came a_C_firstFrom a_P_xs a_P_ys a_P_lows a_P_highs a_P_men) := by
  refine uMet (Qc := uQi D (qwX0_nearestPair_vc a_C v_C_postsThen a_P v_P_size a_P_cells f_P_cells a_P_states f_P_states a_P_stores f_P_stores a_C_lacks f_C_lacks a_C_costs f_C_costs a_C_c0 f_C_c0 a_C_c1 f_C_c1 a_C_c2 f_C_c2 a_C_c3 f_C_c3 a_C_c4 f_C_c4 a_C_c5 f_C_c5 a_C_c6 f_C_c6 a_C_c7 f_C_c7 a_C_c8 f_C_c8 a_C_c9 f_C_c9 a_C_c10 f_C_c10 a_C_c11 f_C_c11 a_T a_C_measured a_C_statesThen a_C_came a_C_firstFrom a_P_xs a_P_ys a_P_lows a_P_highs a_P_men) (vwX0_nearestPair_vc K a_C v_C_postsThen a_P v_P_size a_P_cells f_P_cells a_P_states f_P_states a_P_stores f_P_stores a_C_lacks f_C_lacks a_C_costs f_C_costs a_C_c0 f_C_c0 a_C_c1 f_C_c1 a_C_c2 f_C_c2 a_C_c3 f_C_c3 a_C_c4 f_C_c4 a_C_c5 f_C_c5 a_C_c6 f_C_c6 a_C_c7 f_C_c7 a_C_c8 f_C_c8 a_C_c9 f_C_c9 a_C_c10 f_C_c10 a_C_c11 f_C_c11 a_T a_C_measured a_C_statesThen a_C_came a_C_firstFrom a_P_xs a_P_ys a_P_lows a_P_highs a_P_men)) (ret := (some .int)) (by decide) (Nat.le_of_ble_eq_true rfl) ?_
  intro p e s m below meth c A ls hAe hsz B hP hD hS hl
  have hx := B.1
  have hb := B.2.1
  have hl : lv_has ls 6 [(0, .ref a_C)] := hl
  refine lv_iconst (v := (-1)) hx hb dX0_nearestPair_0 (by decide) ?_
  refine lv_istore_n (lv' := [(1, .int (-1)), (0, .ref a_C)]) hx hb dX0_nearestPair_1 rfl hl (by decide) rfl (fun ls hl => ?_)
  refine uLdc B mct_X0_61 dX0_nearestPair_2 ?_
  refine lv_istore_n (lv' := [(2, .int 1073741823), (1, .int (-1)), (0, .ref a_C)]) hx hb dX0_nearestPair_4 rfl hl (by decide) rfl (fun ls hl => ?_)
  refine lv_iconst (v := 0) hx hb dX0_nearestPair_5 (by decide) ?_
  refine lv_pc (q := 6) rfl ?_
  refine lv_istore_n (lv' := [(3, .int 0), (2, .int 1073741823), (1, .int (-1)), (0, .ref a_C)]) hx hb dX0_nearestPair_6 rfl hl (by decide) rfl (fun ls hl => ?_)
  have L7 : ∀ (n9 : Nat) (j1 : Nat) (y2 : Int32) (y3 : Int32), (j1 ≤ v_P_size) → ((-1) ≤ y2) → (y2 ≤ 143) → (uwNq y2 (uwCd (fun pY => f_P_states pY = 0) f_P_stores f_C_lacks) (fun aY bY => ([f_C_c0, f_C_c1, f_C_c2, f_C_c3, f_C_c4, f_C_c5, f_C_c6, f_C_c7, f_C_c8, f_C_c9, f_C_c10, f_C_c11] : List (Nat → Int32)).getD aY (fun _ => 0) (uN (f_P_cells bY))) j1 0 v_P_size) → (uwBc y2 y3 (fun aY bY => ([f_C_c0, f_C_c1, f_C_c2, f_C_c3, f_C_c4, f_C_c5, f_C_c6, f_C_c7, f_C_c8, f_C_c9, f_C_c10, f_C_c11] : List (Nat → Int32)).getD aY (fun _ => 0) (uN (f_P_cells bY)))) → v_P_size - j1 < n9 → ∀ (H : Heap) (locs : List Loc) (ls : Array Slot), va_P D vwCl [(a_C, .inr (0, [.ref a_T, .ref a_P, .ref a_C_costs, .ref a_C_measured, .ref a_C_statesThen, .ref a_C_came, .ref a_C_lacks, .ref a_C_firstFrom, .int (nI v_C_postsThen)])), (a_P, .inr (4, [.ref a_T, .ref a_P_xs, .ref a_P_ys, .ref a_P_cells, .ref a_P_lows, .ref a_P_highs, .ref a_P_states, .ref a_P_men, .ref a_P_stores, .int (nI v_P_size)])), (a_P_cells, .inl (K 0, 12, .inl f_P_cells)), (a_P_states, .inl (K 0, 12, .inl f_P_states)), (a_P_stores, .inl (K 0, 12, .inl f_P_stores)), (a_C_lacks, .inl (K 0, 12, .inl f_C_lacks)), (a_C_costs, .inl (K 3, 12, .inr (.inr (.inr (.inr f_C_costs))))), (a_C_c0, .inl (K 0, 256, .inl f_C_c0)), (a_C_c1, .inl (K 0, 256, .inl f_C_c1)), (a_C_c2, .inl (K 0, 256, .inl f_C_c2)), (a_C_c3, .inl (K 0, 256, .inl f_C_c3)), (a_C_c4, .inl (K 0, 256, .inl f_C_c4)), (a_C_c5, .inl (K 0, 256, .inl f_C_c5)), (a_C_c6, .inl (K 0, 256, .inl f_C_c6)), (a_C_c7, .inl (K 0, 256, .inl f_C_c7)), (a_C_c8, .inl (K 0, 256, .inl f_C_c8)), (a_C_c9, .inl (K 0, 256, .inl f_C_c9)), (a_C_c10, .inl (K 0, 256, .inl f_C_c10)), (a_C_c11, .inl (K 0, 256, .inl f_C_c11))] H → va_D A [(a_C, .inr (0, [.ref a_T, .ref a_P, .ref a_C_costs, .ref a_C_measured, .ref a_C_statesThen, .ref a_C_came, .ref a_C_lacks, .ref a_C_firstFrom, .int (nI v_C_postsThen)])), (a_P, .inr (4, [.ref a_T, .ref a_P_xs, .ref a_P_ys, .ref a_P_cells, .ref a_P_lows, .ref a_P_highs, .ref a_P_states, .ref a_P_men, .ref a_P_stores, .int (nI v_P_size)])), (a_P_cells, .inl (K 0, 12, .inl f_P_cells)), (a_P_states, .inl (K 0, 12, .inl f_P_states)), (a_P_stores, .inl (K 0, 12, .inl f_P_stores)), (a_C_lacks, .inl (K 0, 12, .inl f_C_lacks)), (a_C_costs, .inl (K 3, 12, .inr (.inr (.inr (.inr f_C_costs))))), (a_C_c0, .inl (K 0, 256, .inl f_C_c0)), (a_C_c1, .inl (K 0, 256, .inl f_C_c1)), (a_C_c2, .inl (K 0, 256, .inl f_C_c2)), (a_C_c3, .inl (K 0, 256, .inl f_C_c3)), (a_C_c4, .inl (K 0, 256, .inl f_C_c4)), (a_C_c5, .inl (K 0, 256, .inl f_C_c5)), (a_C_c6, .inl (K 0, 256, .inl f_C_c6)), (a_C_c7, .inl (K 0, 256, .inl f_C_c7)), (a_C_c8, .inl (K 0, 256, .inl f_C_c8)), (a_C_c9, .inl (K 0, 256, .inl f_C_c9)), (a_C_c10, .inl (K 0, 256, .inl f_C_c10)), (a_C_c11, .inl (K 0, 256, .inl f_C_c11))] → va_S A s.heap H locs → lv_has ls 6 [(3, .int (nI j1)), (2, .int y3), (1, .int y2), (0, .ref a_C)] → W p l e { frames := 1, cells := 0, slots := 0, locals := 21 } s m ([.ref a_C] : List Value).toArray below meth c H locs 0 0 (MQ below (uQi D (qwX0_nearestPair_vc a_C v_C_postsThen a_P v_P_size a_P_cells f_P_cells a_P_states f_P_states a_P_stores f_P_stores a_C_lacks f_C_lacks a_C_costs f_C_costs a_C_c0 f_C_c0 a_C_c1 f_C_c1 a_C_c2 f_C_c2 a_C_c3 f_C_c3 a_C_c4 f_C_c4 a_C_c5 f_C_c5 a_C_c6 f_C_c6 a_C_c7 f_C_c7 a_C_c8 f_C_c8 a_C_c9 f_C_c9 a_C_c10 f_C_c10 a_C_c11 f_C_c11 a_T a_C_measured a_C_statesThen a_C_came a_C_firstFrom a_P_xs a_P_ys a_P_lows a_P_highs a_P_men) (vwX0_nearestPair_vc K a_C v_C_postsThen a_P v_P_size a_P_cells f_P_cells a_P_states f_P_states a_P_stores f_P_stores a_C_lacks f_C_lacks a_C_costs f_C_costs a_C_c0 f_C_c0 a_C_c1 f_C_c1 a_C_c2 f_C_c2 a_C_c3 f_C_c3 a_C_c4 f_C_c4 a_C_c5 f_C_c5 a_C_c6 f_C_c6 a_C_c7 f_C_c7 a_C_c8 f_C_c8 a_C_c9 f_C_c9 a_C_c10 f_C_c10 a_C_c11 f_C_c11 a_T a_C_measured a_C_statesThen a_C_came a_C_firstFrom a_P_xs a_P_ys a_P_lows a_P_highs a_P_men) A) ([.ref a_C] : List Value).toArray s 0 0 A) (F0 m 7 ls []) := by
    intro n9
    induction n9 with
    | zero => intros; exact absurd ‹_ < 0› (Nat.not_lt_zero _)
    | succ n7_ ih7 =>
      intro j1 y2 y3 hj1 ly2 uy2 xo_4 xb_5 hm7 H locs ls hP hD hS hl
      refine lv_iload_n hx hb dX0_nearestPair_7 rfl (lv_at hl 0 rfl) ?_
      refine lv_aload_n hx hb dX0_nearestPair_8 rfl (lv_at hl 3 rfl) ?_
      refine uGet (ci := 0) (C := RX0) (T := TX0) (N := 9) (v := .ref a_P) B inlX0 hP 0 rfl rfl 1 rfl mfl_X0_45 rfl rfl dX0_nearestPair_9 ?_
      refine uGet (ci := 4) (C := RX4) (T := TX4) (N := 10) (v := .int (nI v_P_size)) B inlX4 hP 1 rfl rfl 9 rfl mfl_X0_49 rfl rfl dX0_nearestPair_12 ?_
      refine lv_icmp_ge (tgt := 99) hx hb dX0_nearestPair_15 (by decide) (fun c8 => ?_) (fun c8 => ?_)
      · have k_8 : v_P_size ≤ j1 := (nI_leI (a := v_P_size) (b := j1) (by omega) (by omega)).mp c8
        refine lv_pc (q := 99) rfl ?_
        refine lv_iload_n hx hb dX0_nearestPair_99 rfl (lv_at hl 2 rfl) ?_
        exact uRi () B (uwNqE xo_4 (by omega)) (uSub hP [0, 1, 2, 3, 4, 5, 6, 7, 8, 9, 10, 11, 12, 13, 14, 15, 16, 17, 18] rfl) (hD.sub [0, 1, 2, 3, 4, 5, 6, 7, 8, 9, 10, 11, 12, 13, 14, 15, 16, 17, 18] rfl rfl) hS dX0_nearestPair_100
      have k_8 : ¬ v_P_size ≤ j1 := fun h9 => c8 ((nI_leI (a := v_P_size) (b := j1) (by omega) (by omega)).mpr h9)
      refine lv_pc (q := 18) rfl ?_
      refine lv_iconst (v := 0) hx hb dX0_nearestPair_18 (by decide) ?_
      refine lv_istore (lv' := [(4, .int 0), (3, .int (nI j1)), (2, .int y3), (1, .int y2), (0, .ref a_C)]) hx hb dX0_nearestPair_19 hl (by decide) rfl (fun ls hl => ?_)
      have L15 : ∀ (n9 : Nat) (j9 : Nat) (y10 : Int32) (y11 : Int32), (j9 ≤ v_P_size) → ((-1) ≤ y10) → (y10 ≤ 143) → (uwNq y10 (uwCd (fun pY => f_P_states pY = 0) f_P_stores f_C_lacks) (fun aY bY => ([f_C_c0, f_C_c1, f_C_c2, f_C_c3, f_C_c4, f_C_c5, f_C_c6, f_C_c7, f_C_c8, f_C_c9, f_C_c10, f_C_c11] : List (Nat → Int32)).getD aY (fun _ => 0) (uN (f_P_cells bY))) j1 j9 v_P_size) → (uwBc y10 y11 (fun aY bY => ([f_C_c0, f_C_c1, f_C_c2, f_C_c3, f_C_c4, f_C_c5, f_C_c6, f_C_c7, f_C_c8, f_C_c9, f_C_c10, f_C_c11] : List (Nat → Int32)).getD aY (fun _ => 0) (uN (f_P_cells bY)))) → v_P_size - j9 < n9 → ∀ (H : Heap) (locs : List Loc) (ls : Array Slot), va_P D vwCl [(a_C, .inr (0, [.ref a_T, .ref a_P, .ref a_C_costs, .ref a_C_measured, .ref a_C_statesThen, .ref a_C_came, .ref a_C_lacks, .ref a_C_firstFrom, .int (nI v_C_postsThen)])), (a_P, .inr (4, [.ref a_T, .ref a_P_xs, .ref a_P_ys, .ref a_P_cells, .ref a_P_lows, .ref a_P_highs, .ref a_P_states, .ref a_P_men, .ref a_P_stores, .int (nI v_P_size)])), (a_P_cells, .inl (K 0, 12, .inl f_P_cells)), (a_P_states, .inl (K 0, 12, .inl f_P_states)), (a_P_stores, .inl (K 0, 12, .inl f_P_stores)), (a_C_lacks, .inl (K 0, 12, .inl f_C_lacks)), (a_C_costs, .inl (K 3, 12, .inr (.inr (.inr (.inr f_C_costs))))), (a_C_c0, .inl (K 0, 256, .inl f_C_c0)), (a_C_c1, .inl (K 0, 256, .inl f_C_c1)), (a_C_c2, .inl (K 0, 256, .inl f_C_c2)), (a_C_c3, .inl (K 0, 256, .inl f_C_c3)), (a_C_c4, .inl (K 0, 256, .inl f_C_c4)), (a_C_c5, .inl (K 0, 256, .inl f_C_c5)), (a_C_c6, .inl (K 0, 256, .inl f_C_c6)), (a_C_c7, .inl (K 0, 256, .inl f_C_c7)), (a_C_c8, .inl (K 0, 256, .inl f_C_c8)), (a_C_c9, .inl (K 0, 256, .inl f_C_c9)), (a_C_c10, .inl (K 0, 256, .inl f_C_c10)), (a_C_c11, .inl (K 0, 256, .inl f_C_c11))] H → va_D A [(a_C, .inr (0, [.ref a_T, .ref a_P, .ref a_C_costs, .ref a_C_measured, .ref a_C_statesThen, .ref a_C_came, .ref a_C_lacks, .ref a_C_firstFrom, .int (nI v_C_postsThen)])), (a_P, .inr (4, [.ref a_T, .ref a_P_xs, .ref a_P_ys, .ref a_P_cells, .ref a_P_lows, .ref a_P_highs, .ref a_P_states, .ref a_P_men, .ref a_P_stores, .int (nI v_P_size)])), (a_P_cells, .inl (K 0, 12, .inl f_P_cells)), (a_P_states, .inl (K 0, 12, .inl f_P_states)), (a_P_stores, .inl (K 0, 12, .inl f_P_stores)), (a_C_lacks, .inl (K 0, 12, .inl f_C_lacks)), (a_C_costs, .inl (K 3, 12, .inr (.inr (.inr (.inr f_C_costs))))), (a_C_c0, .inl (K 0, 256, .inl f_C_c0)), (a_C_c1, .inl (K 0, 256, .inl f_C_c1)), (a_C_c2, .inl (K 0, 256, .inl f_C_c2)), (a_C_c3, .inl (K 0, 256, .inl f_C_c3)), (a_C_c4, .inl (K 0, 256, .inl f_C_c4)), (a_C_c5, .inl (K 0, 256, .inl f_C_c5)), (a_C_c6, .inl (K 0, 256, .inl f_C_c6)), (a_C_c7, .inl (K 0, 256, .inl f_C_c7)), (a_C_c8, .inl (K 0, 256, .inl f_C_c8)), (a_C_c9, .inl (K 0, 256, .inl f_C_c9)), (a_C_c10, .inl (K 0, 256, .inl f_C_c10)), (a_C_c11, .inl (K 0, 256, .inl f_C_c11))] → va_S A s.heap H locs → lv_has ls 6 [(4, .int (nI j9)), (3, .int (nI j1)), (2, .int y11), (1, .int y10), (0, .ref a_C)] → W p l e { frames := 1, cells := 0, slots := 0, locals := 21 } s m ([.ref a_C] : List Value).toArray below meth c H locs 0 0 (MQ below (uQi D (qwX0_nearestPair_vc a_C v_C_postsThen a_P v_P_size a_P_cells f_P_cells a_P_states f_P_states a_P_stores f_P_stores a_C_lacks f_C_lacks a_C_costs f_C_costs a_C_c0 f_C_c0 a_C_c1 f_C_c1 a_C_c2 f_C_c2 a_C_c3 f_C_c3 a_C_c4 f_C_c4 a_C_c5 f_C_c5 a_C_c6 f_C_c6 a_C_c7 f_C_c7 a_C_c8 f_C_c8 a_C_c9 f_C_c9 a_C_c10 f_C_c10 a_C_c11 f_C_c11 a_T a_C_measured a_C_statesThen a_C_came a_C_firstFrom a_P_xs a_P_ys a_P_lows a_P_highs a_P_men) (vwX0_nearestPair_vc K a_C v_C_postsThen a_P v_P_size a_P_cells f_P_cells a_P_states f_P_states a_P_stores f_P_stores a_C_lacks f_C_lacks a_C_costs f_C_costs a_C_c0 f_C_c0 a_C_c1 f_C_c1 a_C_c2 f_C_c2 a_C_c3 f_C_c3 a_C_c4 f_C_c4 a_C_c5 f_C_c5 a_C_c6 f_C_c6 a_C_c7 f_C_c7 a_C_c8 f_C_c8 a_C_c9 f_C_c9 a_C_c10 f_C_c10 a_C_c11 f_C_c11 a_T a_C_measured a_C_statesThen a_C_came a_C_firstFrom a_P_xs a_P_ys a_P_lows a_P_highs a_P_men) A) ([.ref a_C] : List Value).toArray s 0 0 A) (F0 m 21 ls []) := by
        intro n9
        induction n9 with
        | zero => intros; exact absurd ‹_ < 0› (Nat.not_lt_zero _)
        | succ n21_ ih21 =>
          intro j9 y10 y11 hj9 ly10 uy10 xi_12 xd_13 hm21 H locs ls hP hD hS hl
          refine lv_iload hx hb dX0_nearestPair_21 (lv_at hl 0 rfl) ?_
          refine lv_aload_n hx hb dX0_nearestPair_23 rfl (lv_at hl 4 rfl) ?_
          refine uGet (ci := 0) (C := RX0) (T := TX0) (N := 9) (v := .ref a_P) B inlX0 hP 0 rfl rfl 1 rfl mfl_X0_45 rfl rfl dX0_nearestPair_24 ?_
          refine uGet (ci := 4) (C := RX4) (T := TX4) (N := 10) (v := .int (nI v_P_size)) B inlX4 hP 1 rfl rfl 9 rfl mfl_X0_49 rfl rfl dX0_nearestPair_27 ?_
          refine lv_pc (q := 30) rfl ?_
          refine lv_icmp_ge (tgt := 93) hx hb dX0_nearestPair_30 (by decide) (fun c16 => ?_) (fun c16 => ?_)
          · have k_16 : v_P_size ≤ j9 := (nI_leI (a := v_P_size) (b := j9) (by omega) (by omega)).mp c16
            refine lv_iinc (v := nI (j1 + 1)) (lv' := [(3, .int (nI (j1 + 1))), (4, .int (nI j9)), (2, .int y11), (1, .int y10), (0, .ref a_C)]) hx hb dX0_nearestPair_93 hl (k := 1) rfl (nI_1 _) (by decide) rfl (fun ls hl => ?_)
            refine lv_goto (tgt := 7) hx hb dX0_nearestPair_96 (by decide) ?_
            refine lv_pc (q := 7) rfl ?_
            refine W.widen (k := 0) (n := 0) (Nat.le_of_ble_eq_true rfl) (Nat.le_of_ble_eq_true rfl) ?_
            exact ih7 (j1 + 1) y10 y11 (by omega) ly10 uy10 (uwNqR xi_12 (fun bY h8 h9 _ => absurd h9 (by omega))) xd_13 (by omega) _ _ _ (uSub hP [0, 1, 2, 3, 4, 5, 6, 7, 8, 9, 10, 11, 12, 13, 14, 15, 16, 17, 18] rfl) (hD.sub [0, 1, 2, 3, 4, 5, 6, 7, 8, 9, 10, 11, 12, 13, 14, 15, 16, 17, 18] rfl rfl) hS (lv_sub hl [0, 2, 3, 4] rfl)
          have k_16 : ¬ v_P_size ≤ j9 := fun h9 => c16 ((nI_leI (a := v_P_size) (b := j9) (by omega) (by omega)).mpr h9)
          refine lv_aload_n hx hb dX0_nearestPair_33 rfl (lv_at hl 4 rfl) ?_
          refine lv_iload_n hx hb dX0_nearestPair_34 rfl (lv_at hl 1 rfl) ?_
          refine uVi (As := [.int (nI j1)]) (rest := []) (wr := [(a_P_cells, .inl (K 0, 12, .inl f_P_cells)), (a_C_lacks, .inl (K 0, 12, .inl f_C_lacks)), (a_C_costs, .inl (K 3, 12, .inr (.inr (.inr (.inr f_C_costs))))), (a_C_c0, .inl (K 0, 256, .inl f_C_c0)), (a_C_c1, .inl (K 0, 256, .inl f_C_c1)), (a_C_c2, .inl (K 0, 256, .inl f_C_c2)), (a_C_c3, .inl (K 0, 256, .inl f_C_c3)), (a_C_c4, .inl (K 0, 256, .inl f_C_c4)), (a_C_c5, .inl (K 0, 256, .inl f_C_c5)), (a_C_c6, .inl (K 0, 256, .inl f_C_c6)), (a_C_c7, .inl (K 0, 256, .inl f_C_c7)), (a_C_c8, .inl (K 0, 256, .inl f_C_c8)), (a_C_c9, .inl (K 0, 256, .inl f_C_c9)), (a_C_c10, .inl (K 0, 256, .inl f_C_c10)), (a_C_c11, .inl (K 0, 256, .inl f_C_c11))]) [(a_C, .inr (0, [.ref a_T, .ref a_P, .ref a_C_costs, .ref a_C_measured, .ref a_C_statesThen, .ref a_C_came, .ref a_C_lacks, .ref a_C_firstFrom, .int (nI v_C_postsThen)])), (a_P, .inr (4, [.ref a_T, .ref a_P_xs, .ref a_P_ys, .ref a_P_cells, .ref a_P_lows, .ref a_P_highs, .ref a_P_states, .ref a_P_men, .ref a_P_stores, .int (nI v_P_size)])), (a_P_states, .inl (K 0, 12, .inl f_P_states)), (a_P_stores, .inl (K 0, 12, .inl f_P_stores))] B hl.1 hP hD hS [0, 1, 3, 4] [2, 5, 6, 7, 8, 9, 10, 11, 12, 13, 14, 15, 16, 17, 18] rfl rfl rfl (wX0_hasStore_vc l D K _ a_C v_C_postsThen a_P v_P_size a_P_states f_P_states a_P_stores f_P_stores a_T a_C_costs a_C_measured a_C_statesThen a_C_came a_C_lacks a_C_firstFrom a_P_xs a_P_ys a_P_cells a_P_lows a_P_highs a_P_men j1 (by omega) (by omega) (by omega) (by omega) i_uwSn) wd_X0_hasStore mml_X0_121 rfl rfl rfl rfl ⟨Nat.le_of_ble_eq_true rfl, Nat.le_of_ble_eq_true rfl⟩ (Nat.le_of_ble_eq_true rfl) ⟨Nat.le_of_ble_eq_true rfl, Nat.le_of_ble_eq_true rfl⟩ dX0_nearestPair_35 (fun r17 u H locs hw hP hD hS => ?_)
          try dsimp only at hw
          have w18 := hw
          have hP : va_P D vwCl [(a_P_cells, .inl (K 0, 12, .inl f_P_cells)), (a_C_lacks, .inl (K 0, 12, .inl f_C_lacks)), (a_C_costs, .inl (K 3, 12, .inr (.inr (.inr (.inr f_C_costs))))), (a_C_c0, .inl (K 0, 256, .inl f_C_c0)), (a_C_c1, .inl (K 0, 256, .inl f_C_c1)), (a_C_c2, .inl (K 0, 256, .inl f_C_c2)), (a_C_c3, .inl (K 0, 256, .inl f_C_c3)), (a_C_c4, .inl (K 0, 256, .inl f_C_c4)), (a_C_c5, .inl (K 0, 256, .inl f_C_c5)), (a_C_c6, .inl (K 0, 256, .inl f_C_c6)), (a_C_c7, .inl (K 0, 256, .inl f_C_c7)), (a_C_c8, .inl (K 0, 256, .inl f_C_c8)), (a_C_c9, .inl (K 0, 256, .inl f_C_c9)), (a_C_c10, .inl (K 0, 256, .inl f_C_c10)), (a_C_c11, .inl (K 0, 256, .inl f_C_c11)), (a_C, .inr (0, [.ref a_T, .ref a_P, .ref a_C_costs, .ref a_C_measured, .ref a_C_statesThen, .ref a_C_came, .ref a_C_lacks, .ref a_C_firstFrom, .int (nI v_C_postsThen)])), (a_P, .inr (4, [.ref a_T, .ref a_P_xs, .ref a_P_ys, .ref a_P_cells, .ref a_P_lows, .ref a_P_highs, .ref a_P_states, .ref a_P_men, .ref a_P_stores, .int (nI v_P_size)])), (a_P_states, .inl (K 0, 12, .inl f_P_states)), (a_P_stores, .inl (K 0, 12, .inl f_P_stores))] H := hP
          have hD : va_D A [(a_P_cells, .inl (K 0, 12, .inl f_P_cells)), (a_C_lacks, .inl (K 0, 12, .inl f_C_lacks)), (a_C_costs, .inl (K 3, 12, .inr (.inr (.inr (.inr f_C_costs))))), (a_C_c0, .inl (K 0, 256, .inl f_C_c0)), (a_C_c1, .inl (K 0, 256, .inl f_C_c1)), (a_C_c2, .inl (K 0, 256, .inl f_C_c2)), (a_C_c3, .inl (K 0, 256, .inl f_C_c3)), (a_C_c4, .inl (K 0, 256, .inl f_C_c4)), (a_C_c5, .inl (K 0, 256, .inl f_C_c5)), (a_C_c6, .inl (K 0, 256, .inl f_C_c6)), (a_C_c7, .inl (K 0, 256, .inl f_C_c7)), (a_C_c8, .inl (K 0, 256, .inl f_C_c8)), (a_C_c9, .inl (K 0, 256, .inl f_C_c9)), (a_C_c10, .inl (K 0, 256, .inl f_C_c10)), (a_C_c11, .inl (K 0, 256, .inl f_C_c11)), (a_C, .inr (0, [.ref a_T, .ref a_P, .ref a_C_costs, .ref a_C_measured, .ref a_C_statesThen, .ref a_C_came, .ref a_C_lacks, .ref a_C_firstFrom, .int (nI v_C_postsThen)])), (a_P, .inr (4, [.ref a_T, .ref a_P_xs, .ref a_P_ys, .ref a_P_cells, .ref a_P_lows, .ref a_P_highs, .ref a_P_states, .ref a_P_men, .ref a_P_stores, .int (nI v_P_size)])), (a_P_states, .inl (K 0, 12, .inl f_P_states)), (a_P_stores, .inl (K 0, 12, .inl f_P_stores))] := hD
          rcases w18 with ⟨rfl, w19⟩ | ⟨rfl, w20⟩
          · refine lv_if_eq (tgt := 93) hx hb dX0_nearestPair_38 (by decide) (fun _ => ?_) (fun h9 => absurd (by decide) h9)
            refine lv_iinc (v := nI (j1 + 1)) (lv' := [(3, .int (nI (j1 + 1))), (4, .int (nI j9)), (2, .int y11), (1, .int y10), (0, .ref a_C)]) hx hb dX0_nearestPair_93 hl (k := 1) rfl (nI_1 _) (by decide) rfl (fun ls hl => ?_)
            refine lv_pc (q := 96) rfl ?_
            refine lv_goto (tgt := 7) hx hb dX0_nearestPair_96 (by decide) ?_
            refine lv_pc (q := 7) rfl ?_
            refine W.widen (k := 0) (n := 0) (Nat.le_of_ble_eq_true rfl) (Nat.le_of_ble_eq_true rfl) ?_
            exact ih7 (j1 + 1) y10 y11 (by omega) ly10 uy10 (uwNqR xi_12 (fun bY _ _ q9 => w19 ⟨q9.1.1, q9.1.2⟩)) xd_13 (by omega) _ _ _ (uSub hP [15, 16, 0, 17, 18, 1, 2, 3, 4, 5, 6, 7, 8, 9, 10, 11, 12, 13, 14] rfl) (hD.sub [15, 16, 0, 17, 18, 1, 2, 3, 4, 5, 6, 7, 8, 9, 10, 11, 12, 13, 14] rfl rfl) hS (lv_sub hl [0, 2, 3, 4] rfl)
          refine lv_if_eq (tgt := 93) hx hb dX0_nearestPair_38 (by decide) (fun h9 => absurd h9 (by decide)) (fun _ => ?_)
          refine lv_aload_n hx hb dX0_nearestPair_41 rfl (lv_at hl 4 rfl) ?_
          refine lv_pc (q := 42) rfl ?_
          refine uGet (ci := 0) (C := RX0) (T := TX0) (N := 9) (v := .ref a_C_costs) B inlX0 hP 15 rfl rfl 2 rfl mfl_X0_15 rfl rfl dX0_nearestPair_42 ?_
          refine lv_iload_n hx hb dX0_nearestPair_45 rfl (lv_at hl 1 rfl) ?_
          have hs9 : j1 = 0 ∨ j1 = 1 ∨ j1 = 2 ∨ j1 = 3 ∨ j1 = 4 ∨ j1 = 5 ∨ j1 = 6 ∨ j1 = 7 ∨ j1 = 8 ∨ j1 = 9 ∨ j1 = 10 ∨ j1 = 11 := by omega
          rcases hs9 with hs9 | hs9 | hs9 | hs9 | hs9 | hs9 | hs9 | hs9 | hs9 | hs9 | hs9 | hs9
          · refine uAald (i := (nI j1)) (j := 0) B hP 2 rfl (nI_in (by omega) (by omega)) (by rw [nI_clamp (by omega)]; exact hs9) k_C_costs_0 dX0_nearestPair_46 ?_
            refine lv_aload_n hx hb dX0_nearestPair_47 rfl (lv_at hl 4 rfl) ?_
            refine uGet (ci := 0) (C := RX0) (T := TX0) (N := 9) (v := .ref a_P) B inlX0 hP 15 rfl rfl 1 rfl mfl_X0_45 rfl rfl dX0_nearestPair_48 ?_
            refine uGet (ci := 4) (C := RX4) (T := TX4) (N := 10) (v := .ref a_P_cells) B inlX4 hP 16 rfl rfl 3 rfl mfl_X0_68 rfl rfl dX0_nearestPair_51 ?_
            refine lv_pc (q := 54) rfl ?_
            refine lv_iload hx hb dX0_nearestPair_54 (lv_at hl 0 rfl) ?_
            refine uIald (i := (nI j9)) (j := j9) B hP 0 rfl (nI_in (by omega) (by omega)) (nI_clamp (by omega)) dX0_nearestPair_56 ?_
            obtain ⟨a21, ha21, ea21⟩ := uRnat r_P_cells j9 (by decide)
            simp only [Int32.reduceToInt] at ha21
            refine lv_fixi (y := (nI a21)) ea21 ?_
            refine uIald (i := (nI a21)) (j := a21) B hP 3 rfl (nI_in (by omega) (by omega)) (nI_clamp (by omega)) dX0_nearestPair_57 ?_
            refine lv_istore (lv' := [(5, .int (f_C_c0 a21)), (4, .int (nI j9)), (3, .int (nI j1)), (2, .int y11), (1, .int y10), (0, .ref a_C)]) hx hb dX0_nearestPair_58 hl (by decide) rfl (fun ls hl => ?_)
            refine lv_aload_n hx hb dX0_nearestPair_60 rfl (lv_at hl 5 rfl) ?_
            refine uGet (ci := 0) (C := RX0) (T := TX0) (N := 9) (v := .ref a_C_lacks) B inlX0 hP 15 rfl rfl 6 rfl mfl_X0_31 rfl rfl dX0_nearestPair_61 ?_
            refine lv_pc (q := 64) rfl ?_
            refine lv_iload hx hb dX0_nearestPair_64 (lv_at hl 1 rfl) ?_
            refine uIald (i := (nI j9)) (j := j9) B hP 1 rfl (nI_in (by omega) (by omega)) (nI_clamp (by omega)) dX0_nearestPair_66 ?_
            refine lv_if_le (tgt := 87) hx hb dX0_nearestPair_67 (by decide) (fun c22 => ?_) (fun c22 => ?_)
            · refine lv_iinc (v := nI (j9 + 1)) (lv' := [(4, .int (nI (j9 + 1))), (5, .int (f_C_c0 a21)), (3, .int (nI j1)), (2, .int y11), (1, .int y10), (0, .ref a_C)]) hx hb dX0_nearestPair_87 hl (k := 1) rfl (nI_1 _) (by decide) rfl (fun ls hl => ?_)
              refine lv_goto (tgt := 21) hx hb dX0_nearestPair_90 (by decide) ?_
              refine lv_pc (q := 21) rfl ?_
              refine W.widen (k := 0) (n := 0) (Nat.le_of_ble_eq_true rfl) (Nat.le_of_ble_eq_true rfl) ?_
              exact ih21 (j9 + 1) y10 y11 (by omega) ly10 uy10 (uwNqN xi_12 (fun q9 => q9.2.2 ((uwLe0 (i_uwLn j9 (by omega)) (by omega)).mp c22))) xd_13 (by omega) _ _ _ (uSub hP [15, 16, 0, 17, 18, 1, 2, 3, 4, 5, 6, 7, 8, 9, 10, 11, 12, 13, 14] rfl) (hD.sub [15, 16, 0, 17, 18, 1, 2, 3, 4, 5, 6, 7, 8, 9, 10, 11, 12, 13, 14] rfl rfl) hS (lv_sub hl [0, 2, 3, 4, 5] rfl)
            refine lv_iload hx hb dX0_nearestPair_70 (lv_at hl 0 rfl) ?_
            refine lv_iload_n hx hb dX0_nearestPair_72 rfl (lv_at hl 3 rfl) ?_
            refine lv_icmp_ge (tgt := 87) hx hb dX0_nearestPair_73 (by decide) (fun c23 => ?_) (fun c23 => ?_)
            · refine lv_pc (q := 87) rfl ?_
              refine lv_iinc (v := nI (j9 + 1)) (lv' := [(4, .int (nI (j9 + 1))), (5, .int (f_C_c0 a21)), (3, .int (nI j1)), (2, .int y11), (1, .int y10), (0, .ref a_C)]) hx hb dX0_nearestPair_87 hl (k := 1) rfl (nI_1 _) (by decide) rfl (fun ls hl => ?_)
              refine lv_goto (tgt := 21) hx hb dX0_nearestPair_90 (by decide) ?_
              refine lv_pc (q := 21) rfl ?_
              refine W.widen (k := 0) (n := 0) (Nat.le_of_ble_eq_true rfl) (Nat.le_of_ble_eq_true rfl) ?_
              exact ih21 (j9 + 1) y10 y11 (by omega) ly10 uy10 (uwNqZ xi_12 xd_13 (by omega) (uwGd hs9 rfl ea21 (by omega)) (Int32.not_lt.mpr c23) (uwFr i_uwWb (by omega) (by omega) w20.1 (uwGd hs9 rfl ea21 (by omega)))) xd_13 (by omega) _ _ _ (uSub hP [15, 16, 0, 17, 18, 1, 2, 3, 4, 5, 6, 7, 8, 9, 10, 11, 12, 13, 14] rfl) (hD.sub [15, 16, 0, 17, 18, 1, 2, 3, 4, 5, 6, 7, 8, 9, 10, 11, 12, 13, 14] rfl rfl) hS (lv_sub hl [0, 2, 3, 4, 5] rfl)
            refine lv_pc (q := 76) rfl ?_
            refine lv_iload_n hx hb dX0_nearestPair_76 rfl (lv_at hl 2 rfl) ?_
            refine lv_bipush (v := 12) hx hb dX0_nearestPair_77 (by decide) ?_
            refine lv_imul hx hb dX0_nearestPair_79 ?_
            refine lv_fixi (y := (nI (j1 * 12))) (by rw [show (12 : Int32) = nI 12 from rfl, pk_mul]) ?_
            refine lv_iload hx hb dX0_nearestPair_80 (lv_at hl 1 rfl) ?_
            refine lv_iadd hx hb dX0_nearestPair_82 ?_
            refine lv_fixi (y := (nI ((j1 * 12) + j9))) (by rw [nI_add]) ?_
            refine lv_istore_n (lv' := [(1, .int (nI ((j1 * 12) + j9))), (5, .int (f_C_c0 a21)), (4, .int (nI j9)), (3, .int (nI j1)), (2, .int y11), (0, .ref a_C)]) hx hb dX0_nearestPair_83 rfl hl (by decide) rfl (fun ls hl => ?_)
            refine lv_pc (q := 84) rfl ?_
            refine lv_iload hx hb dX0_nearestPair_84 (lv_at hl 1 rfl) ?_
            refine lv_istore_n (lv' := [(2, .int (f_C_c0 a21)), (1, .int (nI ((j1 * 12) + j9))), (5, .int (f_C_c0 a21)), (4, .int (nI j9)), (3, .int (nI j1)), (0, .ref a_C)]) hx hb dX0_nearestPair_86 rfl hl (by decide) rfl (fun ls hl => ?_)
            refine lv_iinc (v := nI (j9 + 1)) (lv' := [(4, .int (nI (j9 + 1))), (2, .int (f_C_c0 a21)), (1, .int (nI ((j1 * 12) + j9))), (5, .int (f_C_c0 a21)), (3, .int (nI j1)), (0, .ref a_C)]) hx hb dX0_nearestPair_87 hl (k := 3) rfl (nI_1 _) (by decide) rfl (fun ls hl => ?_)
            refine lv_goto (tgt := 21) hx hb dX0_nearestPair_90 (by decide) ?_
            refine lv_pc (q := 21) rfl ?_
            refine W.widen (k := 0) (n := 0) (Nat.le_of_ble_eq_true rfl) (Nat.le_of_ble_eq_true rfl) ?_
            exact ih21 (j9 + 1) (nI ((j1 * 12) + j9)) (f_C_c0 a21) (by omega) (uLoN (by simp only [Int32.reduceToInt]; omega) (by omega)) (uHiN (by simp only [Int32.reduceToInt]; omega) (by omega)) (uwNqY xi_12 xd_13 (by omega) (by omega) (by omega) ⟨⟨w20.1, w20.2⟩, i_uwLF j9 (by omega) (fun q9 => c22 ((uwLe0 (i_uwLn j9 (by omega)) (by omega)).mpr q9)), (fun q9 => c22 ((uwLe0 (i_uwLn j9 (by omega)) (by omega)).mpr q9))⟩ (uwGd hs9 rfl ea21 (by omega)) (Int32.not_le.mp c23)) (uwBcI (by omega) (by omega) (uwGd hs9 rfl ea21 (by omega))) (by omega) _ _ _ (uSub hP [15, 16, 0, 17, 18, 1, 2, 3, 4, 5, 6, 7, 8, 9, 10, 11, 12, 13, 14] rfl) (hD.sub [15, 16, 0, 17, 18, 1, 2, 3, 4, 5, 6, 7, 8, 9, 10, 11, 12, 13, 14] rfl rfl) hS (lv_sub hl [0, 4, 1, 2, 5] rfl)
          · refine uAald (i := (nI j1)) (j := 1) B hP 2 rfl (nI_in (by omega) (by omega)) (by rw [nI_clamp (by omega)]; exact hs9) k_C_costs_1 dX0_nearestPair_46 ?_
            refine lv_aload_n hx hb dX0_nearestPair_47 rfl (lv_at hl 4 rfl) ?_
            refine uGet (ci := 0) (C := RX0) (T := TX0) (N := 9) (v := .ref a_P) B inlX0 hP 15 rfl rfl 1 rfl mfl_X0_45 rfl rfl dX0_nearestPair_48 ?_
            refine uGet (ci := 4) (C := RX4) (T := TX4) (N := 10) (v := .ref a_P_cells) B inlX4 hP 16 rfl rfl 3 rfl mfl_X0_68 rfl rfl dX0_nearestPair_51 ?_
            refine lv_pc (q := 54) rfl ?_
            refine lv_iload hx hb dX0_nearestPair_54 (lv_at hl 0 rfl) ?_
            refine uIald (i := (nI j9)) (j := j9) B hP 0 rfl (nI_in (by omega) (by omega)) (nI_clamp (by omega)) dX0_nearestPair_56 ?_
            obtain ⟨a24, ha24, ea24⟩ := uRnat r_P_cells j9 (by decide)
            simp only [Int32.reduceToInt] at ha24
            refine lv_fixi (y := (nI a24)) ea24 ?_
            refine uIald (i := (nI a24)) (j := a24) B hP 4 rfl (nI_in (by omega) (by omega)) (nI_clamp (by omega)) dX0_nearestPair_57 ?_
            refine lv_istore (lv' := [(5, .int (f_C_c1 a24)), (4, .int (nI j9)), (3, .int (nI j1)), (2, .int y11), (1, .int y10), (0, .ref a_C)]) hx hb dX0_nearestPair_58 hl (by decide) rfl (fun ls hl => ?_)
            refine lv_aload_n hx hb dX0_nearestPair_60 rfl (lv_at hl 5 rfl) ?_
            refine uGet (ci := 0) (C := RX0) (T := TX0) (N := 9) (v := .ref a_C_lacks) B inlX0 hP 15 rfl rfl 6 rfl mfl_X0_31 rfl rfl dX0_nearestPair_61 ?_
            refine lv_pc (q := 64) rfl ?_
            refine lv_iload hx hb dX0_nearestPair_64 (lv_at hl 1 rfl) ?_
            refine uIald (i := (nI j9)) (j := j9) B hP 1 rfl (nI_in (by omega) (by omega)) (nI_clamp (by omega)) dX0_nearestPair_66 ?_
            refine lv_if_le (tgt := 87) hx hb dX0_nearestPair_67 (by decide) (fun c25 => ?_) (fun c25 => ?_)
            · refine lv_iinc (v := nI (j9 + 1)) (lv' := [(4, .int (nI (j9 + 1))), (5, .int (f_C_c1 a24)), (3, .int (nI j1)), (2, .int y11), (1, .int y10), (0, .ref a_C)]) hx hb dX0_nearestPair_87 hl (k := 1) rfl (nI_1 _) (by decide) rfl (fun ls hl => ?_)
              refine lv_goto (tgt := 21) hx hb dX0_nearestPair_90 (by decide) ?_
              refine lv_pc (q := 21) rfl ?_
              refine W.widen (k := 0) (n := 0) (Nat.le_of_ble_eq_true rfl) (Nat.le_of_ble_eq_true rfl) ?_
              exact ih21 (j9 + 1) y10 y11 (by omega) ly10 uy10 (uwNqN xi_12 (fun q9 => q9.2.2 ((uwLe0 (i_uwLn j9 (by omega)) (by omega)).mp c25))) xd_13 (by omega) _ _ _ (uSub hP [15, 16, 0, 17, 18, 1, 2, 3, 4, 5, 6, 7, 8, 9, 10, 11, 12, 13, 14] rfl) (hD.sub [15, 16, 0, 17, 18, 1, 2, 3, 4, 5, 6, 7, 8, 9, 10, 11, 12, 13, 14] rfl rfl) hS (lv_sub hl [0, 2, 3, 4, 5] rfl)
            refine lv_iload hx hb dX0_nearestPair_70 (lv_at hl 0 rfl) ?_
            refine lv_iload_n hx hb dX0_nearestPair_72 rfl (lv_at hl 3 rfl) ?_
            refine lv_icmp_ge (tgt := 87) hx hb dX0_nearestPair_73 (by decide) (fun c26 => ?_) (fun c26 => ?_)
            · refine lv_pc (q := 87) rfl ?_
              refine lv_iinc (v := nI (j9 + 1)) (lv' := [(4, .int (nI (j9 + 1))), (5, .int (f_C_c1 a24)), (3, .int (nI j1)), (2, .int y11), (1, .int y10), (0, .ref a_C)]) hx hb dX0_nearestPair_87 hl (k := 1) rfl (nI_1 _) (by decide) rfl (fun ls hl => ?_)
              refine lv_goto (tgt := 21) hx hb dX0_nearestPair_90 (by decide) ?_
              refine lv_pc (q := 21) rfl ?_
              refine W.widen (k := 0) (n := 0) (Nat.le_of_ble_eq_true rfl) (Nat.le_of_ble_eq_true rfl) ?_
              exact ih21 (j9 + 1) y10 y11 (by omega) ly10 uy10 (uwNqZ xi_12 xd_13 (by omega) (uwGd hs9 rfl ea24 (by omega)) (Int32.not_lt.mpr c26) (uwFr i_uwWb (by omega) (by omega) w20.1 (uwGd hs9 rfl ea24 (by omega)))) xd_13 (by omega) _ _ _ (uSub hP [15, 16, 0, 17, 18, 1, 2, 3, 4, 5, 6, 7, 8, 9, 10, 11, 12, 13, 14] rfl) (hD.sub [15, 16, 0, 17, 18, 1, 2, 3, 4, 5, 6, 7, 8, 9, 10, 11, 12, 13, 14] rfl rfl) hS (lv_sub hl [0, 2, 3, 4, 5] rfl)
            refine lv_pc (q := 76) rfl ?_
            refine lv_iload_n hx hb dX0_nearestPair_76 rfl (lv_at hl 2 rfl) ?_
            refine lv_bipush (v := 12) hx hb dX0_nearestPair_77 (by decide) ?_
            refine lv_imul hx hb dX0_nearestPair_79 ?_
            refine lv_fixi (y := (nI (j1 * 12))) (by rw [show (12 : Int32) = nI 12 from rfl, pk_mul]) ?_
            refine lv_iload hx hb dX0_nearestPair_80 (lv_at hl 1 rfl) ?_
            refine lv_iadd hx hb dX0_nearestPair_82 ?_
            refine lv_fixi (y := (nI ((j1 * 12) + j9))) (by rw [nI_add]) ?_
            refine lv_istore_n (lv' := [(1, .int (nI ((j1 * 12) + j9))), (5, .int (f_C_c1 a24)), (4, .int (nI j9)), (3, .int (nI j1)), (2, .int y11), (0, .ref a_C)]) hx hb dX0_nearestPair_83 rfl hl (by decide) rfl (fun ls hl => ?_)
            refine lv_pc (q := 84) rfl ?_
            refine lv_iload hx hb dX0_nearestPair_84 (lv_at hl 1 rfl) ?_
            refine lv_istore_n (lv' := [(2, .int (f_C_c1 a24)), (1, .int (nI ((j1 * 12) + j9))), (5, .int (f_C_c1 a24)), (4, .int (nI j9)), (3, .int (nI j1)), (0, .ref a_C)]) hx hb dX0_nearestPair_86 rfl hl (by decide) rfl (fun ls hl => ?_)
            refine lv_iinc (v := nI (j9 + 1)) (lv' := [(4, .int (nI (j9 + 1))), (2, .int (f_C_c1 a24)), (1, .int (nI ((j1 * 12) + j9))), (5, .int (f_C_c1 a24)), (3, .int (nI j1)), (0, .ref a_C)]) hx hb dX0_nearestPair_87 hl (k := 3) rfl (nI_1 _) (by decide) rfl (fun ls hl => ?_)
            refine lv_goto (tgt := 21) hx hb dX0_nearestPair_90 (by decide) ?_
            refine lv_pc (q := 21) rfl ?_
            refine W.widen (k := 0) (n := 0) (Nat.le_of_ble_eq_true rfl) (Nat.le_of_ble_eq_true rfl) ?_
            exact ih21 (j9 + 1) (nI ((j1 * 12) + j9)) (f_C_c1 a24) (by omega) (uLoN (by simp only [Int32.reduceToInt]; omega) (by omega)) (uHiN (by simp only [Int32.reduceToInt]; omega) (by omega)) (uwNqY xi_12 xd_13 (by omega) (by omega) (by omega) ⟨⟨w20.1, w20.2⟩, i_uwLF j9 (by omega) (fun q9 => c25 ((uwLe0 (i_uwLn j9 (by omega)) (by omega)).mpr q9)), (fun q9 => c25 ((uwLe0 (i_uwLn j9 (by omega)) (by omega)).mpr q9))⟩ (uwGd hs9 rfl ea24 (by omega)) (Int32.not_le.mp c26)) (uwBcI (by omega) (by omega) (uwGd hs9 rfl ea24 (by omega))) (by omega) _ _ _ (uSub hP [15, 16, 0, 17, 18, 1, 2, 3, 4, 5, 6, 7, 8, 9, 10, 11, 12, 13, 14] rfl) (hD.sub [15, 16, 0, 17, 18, 1, 2, 3, 4, 5, 6, 7, 8, 9, 10, 11, 12, 13, 14] rfl rfl) hS (lv_sub hl [0, 4, 1, 2, 5] rfl)
          · refine uAald (i := (nI j1)) (j := 2) B hP 2 rfl (nI_in (by omega) (by omega)) (by rw [nI_clamp (by omega)]; exact hs9) k_C_costs_2 dX0_nearestPair_46 ?_
            refine lv_aload_n hx hb dX0_nearestPair_47 rfl (lv_at hl 4 rfl) ?_
            refine uGet (ci := 0) (C := RX0) (T := TX0) (N := 9) (v := .ref a_P) B inlX0 hP 15 rfl rfl 1 rfl mfl_X0_45 rfl rfl dX0_nearestPair_48 ?_
            refine uGet (ci := 4) (C := RX4) (T := TX4) (N := 10) (v := .ref a_P_cells) B inlX4 hP 16 rfl rfl 3 rfl mfl_X0_68 rfl rfl dX0_nearestPair_51 ?_
            refine lv_pc (q := 54) rfl ?_
            refine lv_iload hx hb dX0_nearestPair_54 (lv_at hl 0 rfl) ?_
            refine uIald (i := (nI j9)) (j := j9) B hP 0 rfl (nI_in (by omega) (by omega)) (nI_clamp (by omega)) dX0_nearestPair_56 ?_
            obtain ⟨a27, ha27, ea27⟩ := uRnat r_P_cells j9 (by decide)
            simp only [Int32.reduceToInt] at ha27
            refine lv_fixi (y := (nI a27)) ea27 ?_
            refine uIald (i := (nI a27)) (j := a27) B hP 5 rfl (nI_in (by omega) (by omega)) (nI_clamp (by omega)) dX0_nearestPair_57 ?_
            refine lv_istore (lv' := [(5, .int (f_C_c2 a27)), (4, .int (nI j9)), (3, .int (nI j1)), (2, .int y11), (1, .int y10), (0, .ref a_C)]) hx hb dX0_nearestPair_58 hl (by decide) rfl (fun ls hl => ?_)
            refine lv_aload_n hx hb dX0_nearestPair_60 rfl (lv_at hl 5 rfl) ?_
            refine uGet (ci := 0) (C := RX0) (T := TX0) (N := 9) (v := .ref a_C_lacks) B inlX0 hP 15 rfl rfl 6 rfl mfl_X0_31 rfl rfl dX0_nearestPair_61 ?_
            refine lv_pc (q := 64) rfl ?_
            refine lv_iload hx hb dX0_nearestPair_64 (lv_at hl 1 rfl) ?_
            refine uIald (i := (nI j9)) (j := j9) B hP 1 rfl (nI_in (by omega) (by omega)) (nI_clamp (by omega)) dX0_nearestPair_66 ?_
            refine lv_if_le (tgt := 87) hx hb dX0_nearestPair_67 (by decide) (fun c28 => ?_) (fun c28 => ?_)
            · refine lv_iinc (v := nI (j9 + 1)) (lv' := [(4, .int (nI (j9 + 1))), (5, .int (f_C_c2 a27)), (3, .int (nI j1)), (2, .int y11), (1, .int y10), (0, .ref a_C)]) hx hb dX0_nearestPair_87 hl (k := 1) rfl (nI_1 _) (by decide) rfl (fun ls hl => ?_)
              refine lv_goto (tgt := 21) hx hb dX0_nearestPair_90 (by decide) ?_
              refine lv_pc (q := 21) rfl ?_
              refine W.widen (k := 0) (n := 0) (Nat.le_of_ble_eq_true rfl) (Nat.le_of_ble_eq_true rfl) ?_
              exact ih21 (j9 + 1) y10 y11 (by omega) ly10 uy10 (uwNqN xi_12 (fun q9 => q9.2.2 ((uwLe0 (i_uwLn j9 (by omega)) (by omega)).mp c28))) xd_13 (by omega) _ _ _ (uSub hP [15, 16, 0, 17, 18, 1, 2, 3, 4, 5, 6, 7, 8, 9, 10, 11, 12, 13, 14] rfl) (hD.sub [15, 16, 0, 17, 18, 1, 2, 3, 4, 5, 6, 7, 8, 9, 10, 11, 12, 13, 14] rfl rfl) hS (lv_sub hl [0, 2, 3, 4, 5] rfl)
            refine lv_iload hx hb dX0_nearestPair_70 (lv_at hl 0 rfl) ?_
            refine lv_iload_n hx hb dX0_nearestPair_72 rfl (lv_at hl 3 rfl) ?_
            refine lv_icmp_ge (tgt := 87) hx hb dX0_nearestPair_73 (by decide) (fun c29 => ?_) (fun c29 => ?_)
            · refine lv_pc (q := 87) rfl ?_
              refine lv_iinc (v := nI (j9 + 1)) (lv' := [(4, .int (nI (j9 + 1))), (5, .int (f_C_c2 a27)), (3, .int (nI j1)), (2, .int y11), (1, .int y10), (0, .ref a_C)]) hx hb dX0_nearestPair_87 hl (k := 1) rfl (nI_1 _) (by decide) rfl (fun ls hl => ?_)
              refine lv_goto (tgt := 21) hx hb dX0_nearestPair_90 (by decide) ?_
              refine lv_pc (q := 21) rfl ?_
              refine W.widen (k := 0) (n := 0) (Nat.le_of_ble_eq_true rfl) (Nat.le_of_ble_eq_true rfl) ?_
              exact ih21 (j9 + 1) y10 y11 (by omega) ly10 uy10 (uwNqZ xi_12 xd_13 (by omega) (uwGd hs9 rfl ea27 (by omega)) (Int32.not_lt.mpr c29) (uwFr i_uwWb (by omega) (by omega) w20.1 (uwGd hs9 rfl ea27 (by omega)))) xd_13 (by omega) _ _ _ (uSub hP [15, 16, 0, 17, 18, 1, 2, 3, 4, 5, 6, 7, 8, 9, 10, 11, 12, 13, 14] rfl) (hD.sub [15, 16, 0, 17, 18, 1, 2, 3, 4, 5, 6, 7, 8, 9, 10, 11, 12, 13, 14] rfl rfl) hS (lv_sub hl [0, 2, 3, 4, 5] rfl)
            refine lv_pc (q := 76) rfl ?_
            refine lv_iload_n hx hb dX0_nearestPair_76 rfl (lv_at hl 2 rfl) ?_
            refine lv_bipush (v := 12) hx hb dX0_nearestPair_77 (by decide) ?_
            refine lv_imul hx hb dX0_nearestPair_79 ?_
            refine lv_fixi (y := (nI (j1 * 12))) (by rw [show (12 : Int32) = nI 12 from rfl, pk_mul]) ?_
            refine lv_iload hx hb dX0_nearestPair_80 (lv_at hl 1 rfl) ?_
            refine lv_iadd hx hb dX0_nearestPair_82 ?_
            refine lv_fixi (y := (nI ((j1 * 12) + j9))) (by rw [nI_add]) ?_
            refine lv_istore_n (lv' := [(1, .int (nI ((j1 * 12) + j9))), (5, .int (f_C_c2 a27)), (4, .int (nI j9)), (3, .int (nI j1)), (2, .int y11), (0, .ref a_C)]) hx hb dX0_nearestPair_83 rfl hl (by decide) rfl (fun ls hl => ?_)
            refine lv_pc (q := 84) rfl ?_
            refine lv_iload hx hb dX0_nearestPair_84 (lv_at hl 1 rfl) ?_
            refine lv_istore_n (lv' := [(2, .int (f_C_c2 a27)), (1, .int (nI ((j1 * 12) + j9))), (5, .int (f_C_c2 a27)), (4, .int (nI j9)), (3, .int (nI j1)), (0, .ref a_C)]) hx hb dX0_nearestPair_86 rfl hl (by decide) rfl (fun ls hl => ?_)
            refine lv_iinc (v := nI (j9 + 1)) (lv' := [(4, .int (nI (j9 + 1))), (2, .int (f_C_c2 a27)), (1, .int (nI ((j1 * 12) + j9))), (5, .int (f_C_c2 a27)), (3, .int (nI j1)), (0, .ref a_C)]) hx hb dX0_nearestPair_87 hl (k := 3) rfl (nI_1 _) (by decide) rfl (fun ls hl => ?_)
            refine lv_goto (tgt := 21) hx hb dX0_nearestPair_90 (by decide) ?_
            refine lv_pc (q := 21) rfl ?_
            refine W.widen (k := 0) (n := 0) (Nat.le_of_ble_eq_true rfl) (Nat.le_of_ble_eq_true rfl) ?_
            exact ih21 (j9 + 1) (nI ((j1 * 12) + j9)) (f_C_c2 a27) (by omega) (uLoN (by simp only [Int32.reduceToInt]; omega) (by omega)) (uHiN (by simp only [Int32.reduceToInt]; omega) (by omega)) (uwNqY xi_12 xd_13 (by omega) (by omega) (by omega) ⟨⟨w20.1, w20.2⟩, i_uwLF j9 (by omega) (fun q9 => c28 ((uwLe0 (i_uwLn j9 (by omega)) (by omega)).mpr q9)), (fun q9 => c28 ((uwLe0 (i_uwLn j9 (by omega)) (by omega)).mpr q9))⟩ (uwGd hs9 rfl ea27 (by omega)) (Int32.not_le.mp c29)) (uwBcI (by omega) (by omega) (uwGd hs9 rfl ea27 (by omega))) (by omega) _ _ _ (uSub hP [15, 16, 0, 17, 18, 1, 2, 3, 4, 5, 6, 7, 8, 9, 10, 11, 12, 13, 14] rfl) (hD.sub [15, 16, 0, 17, 18, 1, 2, 3, 4, 5, 6, 7, 8, 9, 10, 11, 12, 13, 14] rfl rfl) hS (lv_sub hl [0, 4, 1, 2, 5] rfl)
          · refine uAald (i := (nI j1)) (j := 3) B hP 2 rfl (nI_in (by omega) (by omega)) (by rw [nI_clamp (by omega)]; exact hs9) k_C_costs_3 dX0_nearestPair_46 ?_
            refine lv_aload_n hx hb dX0_nearestPair_47 rfl (lv_at hl 4 rfl) ?_
            refine uGet (ci := 0) (C := RX0) (T := TX0) (N := 9) (v := .ref a_P) B inlX0 hP 15 rfl rfl 1 rfl mfl_X0_45 rfl rfl dX0_nearestPair_48 ?_
            refine uGet (ci := 4) (C := RX4) (T := TX4) (N := 10) (v := .ref a_P_cells) B inlX4 hP 16 rfl rfl 3 rfl mfl_X0_68 rfl rfl dX0_nearestPair_51 ?_
            refine lv_pc (q := 54) rfl ?_
            refine lv_iload hx hb dX0_nearestPair_54 (lv_at hl 0 rfl) ?_
            refine uIald (i := (nI j9)) (j := j9) B hP 0 rfl (nI_in (by omega) (by omega)) (nI_clamp (by omega)) dX0_nearestPair_56 ?_
            obtain ⟨a30, ha30, ea30⟩ := uRnat r_P_cells j9 (by decide)
            simp only [Int32.reduceToInt] at ha30
            refine lv_fixi (y := (nI a30)) ea30 ?_
            refine uIald (i := (nI a30)) (j := a30) B hP 6 rfl (nI_in (by omega) (by omega)) (nI_clamp (by omega)) dX0_nearestPair_57 ?_
            refine lv_istore (lv' := [(5, .int (f_C_c3 a30)), (4, .int (nI j9)), (3, .int (nI j1)), (2, .int y11), (1, .int y10), (0, .ref a_C)]) hx hb dX0_nearestPair_58 hl (by decide) rfl (fun ls hl => ?_)
            refine lv_aload_n hx hb dX0_nearestPair_60 rfl (lv_at hl 5 rfl) ?_
            refine uGet (ci := 0) (C := RX0) (T := TX0) (N := 9) (v := .ref a_C_lacks) B inlX0 hP 15 rfl rfl 6 rfl mfl_X0_31 rfl rfl dX0_nearestPair_61 ?_
            refine lv_pc (q := 64) rfl ?_
            refine lv_iload hx hb dX0_nearestPair_64 (lv_at hl 1 rfl) ?_
            refine uIald (i := (nI j9)) (j := j9) B hP 1 rfl (nI_in (by omega) (by omega)) (nI_clamp (by omega)) dX0_nearestPair_66 ?_
            refine lv_if_le (tgt := 87) hx hb dX0_nearestPair_67 (by decide) (fun c31 => ?_) (fun c31 => ?_)
            · refine lv_iinc (v := nI (j9 + 1)) (lv' := [(4, .int (nI (j9 + 1))), (5, .int (f_C_c3 a30)), (3, .int (nI j1)), (2, .int y11), (1, .int y10), (0, .ref a_C)]) hx hb dX0_nearestPair_87 hl (k := 1) rfl (nI_1 _) (by decide) rfl (fun ls hl => ?_)
              refine lv_goto (tgt := 21) hx hb dX0_nearestPair_90 (by decide) ?_
              refine lv_pc (q := 21) rfl ?_
              refine W.widen (k := 0) (n := 0) (Nat.le_of_ble_eq_true rfl) (Nat.le_of_ble_eq_true rfl) ?_
              exact ih21 (j9 + 1) y10 y11 (by omega) ly10 uy10 (uwNqN xi_12 (fun q9 => q9.2.2 ((uwLe0 (i_uwLn j9 (by omega)) (by omega)).mp c31))) xd_13 (by omega) _ _ _ (uSub hP [15, 16, 0, 17, 18, 1, 2, 3, 4, 5, 6, 7, 8, 9, 10, 11, 12, 13, 14] rfl) (hD.sub [15, 16, 0, 17, 18, 1, 2, 3, 4, 5, 6, 7, 8, 9, 10, 11, 12, 13, 14] rfl rfl) hS (lv_sub hl [0, 2, 3, 4, 5] rfl)
            refine lv_iload hx hb dX0_nearestPair_70 (lv_at hl 0 rfl) ?_
            refine lv_iload_n hx hb dX0_nearestPair_72 rfl (lv_at hl 3 rfl) ?_
            refine lv_icmp_ge (tgt := 87) hx hb dX0_nearestPair_73 (by decide) (fun c32 => ?_) (fun c32 => ?_)
            · refine lv_pc (q := 87) rfl ?_
              refine lv_iinc (v := nI (j9 + 1)) (lv' := [(4, .int (nI (j9 + 1))), (5, .int (f_C_c3 a30)), (3, .int (nI j1)), (2, .int y11), (1, .int y10), (0, .ref a_C)]) hx hb dX0_nearestPair_87 hl (k := 1) rfl (nI_1 _) (by decide) rfl (fun ls hl => ?_)
              refine lv_goto (tgt := 21) hx hb dX0_nearestPair_90 (by decide) ?_
              refine lv_pc (q := 21) rfl ?_
              refine W.widen (k := 0) (n := 0) (Nat.le_of_ble_eq_true rfl) (Nat.le_of_ble_eq_true rfl) ?_
              exact ih21 (j9 + 1) y10 y11 (by omega) ly10 uy10 (uwNqZ xi_12 xd_13 (by omega) (uwGd hs9 rfl ea30 (by omega)) (Int32.not_lt.mpr c32) (uwFr i_uwWb (by omega) (by omega) w20.1 (uwGd hs9 rfl ea30 (by omega)))) xd_13 (by omega) _ _ _ (uSub hP [15, 16, 0, 17, 18, 1, 2, 3, 4, 5, 6, 7, 8, 9, 10, 11, 12, 13, 14] rfl) (hD.sub [15, 16, 0, 17, 18, 1, 2, 3, 4, 5, 6, 7, 8, 9, 10, 11, 12, 13, 14] rfl rfl) hS (lv_sub hl [0, 2, 3, 4, 5] rfl)
            refine lv_pc (q := 76) rfl ?_
            refine lv_iload_n hx hb dX0_nearestPair_76 rfl (lv_at hl 2 rfl) ?_
            refine lv_bipush (v := 12) hx hb dX0_nearestPair_77 (by decide) ?_
            refine lv_imul hx hb dX0_nearestPair_79 ?_
            refine lv_fixi (y := (nI (j1 * 12))) (by rw [show (12 : Int32) = nI 12 from rfl, pk_mul]) ?_
            refine lv_iload hx hb dX0_nearestPair_80 (lv_at hl 1 rfl) ?_
            refine lv_iadd hx hb dX0_nearestPair_82 ?_
            refine lv_fixi (y := (nI ((j1 * 12) + j9))) (by rw [nI_add]) ?_
            refine lv_istore_n (lv' := [(1, .int (nI ((j1 * 12) + j9))), (5, .int (f_C_c3 a30)), (4, .int (nI j9)), (3, .int (nI j1)), (2, .int y11), (0, .ref a_C)]) hx hb dX0_nearestPair_83 rfl hl (by decide) rfl (fun ls hl => ?_)
            refine lv_pc (q := 84) rfl ?_
            refine lv_iload hx hb dX0_nearestPair_84 (lv_at hl 1 rfl) ?_
            refine lv_istore_n (lv' := [(2, .int (f_C_c3 a30)), (1, .int (nI ((j1 * 12) + j9))), (5, .int (f_C_c3 a30)), (4, .int (nI j9)), (3, .int (nI j1)), (0, .ref a_C)]) hx hb dX0_nearestPair_86 rfl hl (by decide) rfl (fun ls hl => ?_)
            refine lv_iinc (v := nI (j9 + 1)) (lv' := [(4, .int (nI (j9 + 1))), (2, .int (f_C_c3 a30)), (1, .int (nI ((j1 * 12) + j9))), (5, .int (f_C_c3 a30)), (3, .int (nI j1)), (0, .ref a_C)]) hx hb dX0_nearestPair_87 hl (k := 3) rfl (nI_1 _) (by decide) rfl (fun ls hl => ?_)
            refine lv_goto (tgt := 21) hx hb dX0_nearestPair_90 (by decide) ?_
            refine lv_pc (q := 21) rfl ?_
            refine W.widen (k := 0) (n := 0) (Nat.le_of_ble_eq_true rfl) (Nat.le_of_ble_eq_true rfl) ?_
            exact ih21 (j9 + 1) (nI ((j1 * 12) + j9)) (f_C_c3 a30) (by omega) (uLoN (by simp only [Int32.reduceToInt]; omega) (by omega)) (uHiN (by simp only [Int32.reduceToInt]; omega) (by omega)) (uwNqY xi_12 xd_13 (by omega) (by omega) (by omega) ⟨⟨w20.1, w20.2⟩, i_uwLF j9 (by omega) (fun q9 => c31 ((uwLe0 (i_uwLn j9 (by omega)) (by omega)).mpr q9)), (fun q9 => c31 ((uwLe0 (i_uwLn j9 (by omega)) (by omega)).mpr q9))⟩ (uwGd hs9 rfl ea30 (by omega)) (Int32.not_le.mp c32)) (uwBcI (by omega) (by omega) (uwGd hs9 rfl ea30 (by omega))) (by omega) _ _ _ (uSub hP [15, 16, 0, 17, 18, 1, 2, 3, 4, 5, 6, 7, 8, 9, 10, 11, 12, 13, 14] rfl) (hD.sub [15, 16, 0, 17, 18, 1, 2, 3, 4, 5, 6, 7, 8, 9, 10, 11, 12, 13, 14] rfl rfl) hS (lv_sub hl [0, 4, 1, 2, 5] rfl)
          · refine uAald (i := (nI j1)) (j := 4) B hP 2 rfl (nI_in (by omega) (by omega)) (by rw [nI_clamp (by omega)]; exact hs9) k_C_costs_4 dX0_nearestPair_46 ?_
            refine lv_aload_n hx hb dX0_nearestPair_47 rfl (lv_at hl 4 rfl) ?_
            refine uGet (ci := 0) (C := RX0) (T := TX0) (N := 9) (v := .ref a_P) B inlX0 hP 15 rfl rfl 1 rfl mfl_X0_45 rfl rfl dX0_nearestPair_48 ?_
            refine uGet (ci := 4) (C := RX4) (T := TX4) (N := 10) (v := .ref a_P_cells) B inlX4 hP 16 rfl rfl 3 rfl mfl_X0_68 rfl rfl dX0_nearestPair_51 ?_
            refine lv_pc (q := 54) rfl ?_
            refine lv_iload hx hb dX0_nearestPair_54 (lv_at hl 0 rfl) ?_
            refine uIald (i := (nI j9)) (j := j9) B hP 0 rfl (nI_in (by omega) (by omega)) (nI_clamp (by omega)) dX0_nearestPair_56 ?_
            obtain ⟨a33, ha33, ea33⟩ := uRnat r_P_cells j9 (by decide)
            simp only [Int32.reduceToInt] at ha33
            refine lv_fixi (y := (nI a33)) ea33 ?_
            refine uIald (i := (nI a33)) (j := a33) B hP 7 rfl (nI_in (by omega) (by omega)) (nI_clamp (by omega)) dX0_nearestPair_57 ?_
            refine lv_istore (lv' := [(5, .int (f_C_c4 a33)), (4, .int (nI j9)), (3, .int (nI j1)), (2, .int y11), (1, .int y10), (0, .ref a_C)]) hx hb dX0_nearestPair_58 hl (by decide) rfl (fun ls hl => ?_)
            refine lv_aload_n hx hb dX0_nearestPair_60 rfl (lv_at hl 5 rfl) ?_
            refine uGet (ci := 0) (C := RX0) (T := TX0) (N := 9) (v := .ref a_C_lacks) B inlX0 hP 15 rfl rfl 6 rfl mfl_X0_31 rfl rfl dX0_nearestPair_61 ?_
            refine lv_pc (q := 64) rfl ?_
            refine lv_iload hx hb dX0_nearestPair_64 (lv_at hl 1 rfl) ?_
            refine uIald (i := (nI j9)) (j := j9) B hP 1 rfl (nI_in (by omega) (by omega)) (nI_clamp (by omega)) dX0_nearestPair_66 ?_
            refine lv_if_le (tgt := 87) hx hb dX0_nearestPair_67 (by decide) (fun c34 => ?_) (fun c34 => ?_)
            · refine lv_iinc (v := nI (j9 + 1)) (lv' := [(4, .int (nI (j9 + 1))), (5, .int (f_C_c4 a33)), (3, .int (nI j1)), (2, .int y11), (1, .int y10), (0, .ref a_C)]) hx hb dX0_nearestPair_87 hl (k := 1) rfl (nI_1 _) (by decide) rfl (fun ls hl => ?_)
              refine lv_goto (tgt := 21) hx hb dX0_nearestPair_90 (by decide) ?_
              refine lv_pc (q := 21) rfl ?_
              refine W.widen (k := 0) (n := 0) (Nat.le_of_ble_eq_true rfl) (Nat.le_of_ble_eq_true rfl) ?_
              exact ih21 (j9 + 1) y10 y11 (by omega) ly10 uy10 (uwNqN xi_12 (fun q9 => q9.2.2 ((uwLe0 (i_uwLn j9 (by omega)) (by omega)).mp c34))) xd_13 (by omega) _ _ _ (uSub hP [15, 16, 0, 17, 18, 1, 2, 3, 4, 5, 6, 7, 8, 9, 10, 11, 12, 13, 14] rfl) (hD.sub [15, 16, 0, 17, 18, 1, 2, 3, 4, 5, 6, 7, 8, 9, 10, 11, 12, 13, 14] rfl rfl) hS (lv_sub hl [0, 2, 3, 4, 5] rfl)
            refine lv_iload hx hb dX0_nearestPair_70 (lv_at hl 0 rfl) ?_
            refine lv_iload_n hx hb dX0_nearestPair_72 rfl (lv_at hl 3 rfl) ?_
            refine lv_icmp_ge (tgt := 87) hx hb dX0_nearestPair_73 (by decide) (fun c35 => ?_) (fun c35 => ?_)
            · refine lv_pc (q := 87) rfl ?_
              refine lv_iinc (v := nI (j9 + 1)) (lv' := [(4, .int (nI (j9 + 1))), (5, .int (f_C_c4 a33)), (3, .int (nI j1)), (2, .int y11), (1, .int y10), (0, .ref a_C)]) hx hb dX0_nearestPair_87 hl (k := 1) rfl (nI_1 _) (by decide) rfl (fun ls hl => ?_)
              refine lv_goto (tgt := 21) hx hb dX0_nearestPair_90 (by decide) ?_
              refine lv_pc (q := 21) rfl ?_
              refine W.widen (k := 0) (n := 0) (Nat.le_of_ble_eq_true rfl) (Nat.le_of_ble_eq_true rfl) ?_
              exact ih21 (j9 + 1) y10 y11 (by omega) ly10 uy10 (uwNqZ xi_12 xd_13 (by omega) (uwGd hs9 rfl ea33 (by omega)) (Int32.not_lt.mpr c35) (uwFr i_uwWb (by omega) (by omega) w20.1 (uwGd hs9 rfl ea33 (by omega)))) xd_13 (by omega) _ _ _ (uSub hP [15, 16, 0, 17, 18, 1, 2, 3, 4, 5, 6, 7, 8, 9, 10, 11, 12, 13, 14] rfl) (hD.sub [15, 16, 0, 17, 18, 1, 2, 3, 4, 5, 6, 7, 8, 9, 10, 11, 12, 13, 14] rfl rfl) hS (lv_sub hl [0, 2, 3, 4, 5] rfl)
            refine lv_pc (q := 76) rfl ?_
            refine lv_iload_n hx hb dX0_nearestPair_76 rfl (lv_at hl 2 rfl) ?_
            refine lv_bipush (v := 12) hx hb dX0_nearestPair_77 (by decide) ?_
            refine lv_imul hx hb dX0_nearestPair_79 ?_
            refine lv_fixi (y := (nI (j1 * 12))) (by rw [show (12 : Int32) = nI 12 from rfl, pk_mul]) ?_
            refine lv_iload hx hb dX0_nearestPair_80 (lv_at hl 1 rfl) ?_
            refine lv_iadd hx hb dX0_nearestPair_82 ?_
            refine lv_fixi (y := (nI ((j1 * 12) + j9))) (by rw [nI_add]) ?_
            refine lv_istore_n (lv' := [(1, .int (nI ((j1 * 12) + j9))), (5, .int (f_C_c4 a33)), (4, .int (nI j9)), (3, .int (nI j1)), (2, .int y11), (0, .ref a_C)]) hx hb dX0_nearestPair_83 rfl hl (by decide) rfl (fun ls hl => ?_)
            refine lv_pc (q := 84) rfl ?_
            refine lv_iload hx hb dX0_nearestPair_84 (lv_at hl 1 rfl) ?_
            refine lv_istore_n (lv' := [(2, .int (f_C_c4 a33)), (1, .int (nI ((j1 * 12) + j9))), (5, .int (f_C_c4 a33)), (4, .int (nI j9)), (3, .int (nI j1)), (0, .ref a_C)]) hx hb dX0_nearestPair_86 rfl hl (by decide) rfl (fun ls hl => ?_)
            refine lv_iinc (v := nI (j9 + 1)) (lv' := [(4, .int (nI (j9 + 1))), (2, .int (f_C_c4 a33)), (1, .int (nI ((j1 * 12) + j9))), (5, .int (f_C_c4 a33)), (3, .int (nI j1)), (0, .ref a_C)]) hx hb dX0_nearestPair_87 hl (k := 3) rfl (nI_1 _) (by decide) rfl (fun ls hl => ?_)
            refine lv_goto (tgt := 21) hx hb dX0_nearestPair_90 (by decide) ?_
            refine lv_pc (q := 21) rfl ?_
            refine W.widen (k := 0) (n := 0) (Nat.le_of_ble_eq_true rfl) (Nat.le_of_ble_eq_true rfl) ?_
            exact ih21 (j9 + 1) (nI ((j1 * 12) + j9)) (f_C_c4 a33) (by omega) (uLoN (by simp only [Int32.reduceToInt]; omega) (by omega)) (uHiN (by simp only [Int32.reduceToInt]; omega) (by omega)) (uwNqY xi_12 xd_13 (by omega) (by omega) (by omega) ⟨⟨w20.1, w20.2⟩, i_uwLF j9 (by omega) (fun q9 => c34 ((uwLe0 (i_uwLn j9 (by omega)) (by omega)).mpr q9)), (fun q9 => c34 ((uwLe0 (i_uwLn j9 (by omega)) (by omega)).mpr q9))⟩ (uwGd hs9 rfl ea33 (by omega)) (Int32.not_le.mp c35)) (uwBcI (by omega) (by omega) (uwGd hs9 rfl ea33 (by omega))) (by omega) _ _ _ (uSub hP [15, 16, 0, 17, 18, 1, 2, 3, 4, 5, 6, 7, 8, 9, 10, 11, 12, 13, 14] rfl) (hD.sub [15, 16, 0, 17, 18, 1, 2, 3, 4, 5, 6, 7, 8, 9, 10, 11, 12, 13, 14] rfl rfl) hS (lv_sub hl [0, 4, 1, 2, 5] rfl)
          · refine uAald (i := (nI j1)) (j := 5) B hP 2 rfl (nI_in (by omega) (by omega)) (by rw [nI_clamp (by omega)]; exact hs9) k_C_costs_5 dX0_nearestPair_46 ?_
            refine lv_aload_n hx hb dX0_nearestPair_47 rfl (lv_at hl 4 rfl) ?_
            refine uGet (ci := 0) (C := RX0) (T := TX0) (N := 9) (v := .ref a_P) B inlX0 hP 15 rfl rfl 1 rfl mfl_X0_45 rfl rfl dX0_nearestPair_48 ?_
            refine uGet (ci := 4) (C := RX4) (T := TX4) (N := 10) (v := .ref a_P_cells) B inlX4 hP 16 rfl rfl 3 rfl mfl_X0_68 rfl rfl dX0_nearestPair_51 ?_
            refine lv_pc (q := 54) rfl ?_
            refine lv_iload hx hb dX0_nearestPair_54 (lv_at hl 0 rfl) ?_
            refine uIald (i := (nI j9)) (j := j9) B hP 0 rfl (nI_in (by omega) (by omega)) (nI_clamp (by omega)) dX0_nearestPair_56 ?_
            obtain ⟨a36, ha36, ea36⟩ := uRnat r_P_cells j9 (by decide)
            simp only [Int32.reduceToInt] at ha36
            refine lv_fixi (y := (nI a36)) ea36 ?_
            refine uIald (i := (nI a36)) (j := a36) B hP 8 rfl (nI_in (by omega) (by omega)) (nI_clamp (by omega)) dX0_nearestPair_57 ?_
            refine lv_istore (lv' := [(5, .int (f_C_c5 a36)), (4, .int (nI j9)), (3, .int (nI j1)), (2, .int y11), (1, .int y10), (0, .ref a_C)]) hx hb dX0_nearestPair_58 hl (by decide) rfl (fun ls hl => ?_)
            refine lv_aload_n hx hb dX0_nearestPair_60 rfl (lv_at hl 5 rfl) ?_
            refine uGet (ci := 0) (C := RX0) (T := TX0) (N := 9) (v := .ref a_C_lacks) B inlX0 hP 15 rfl rfl 6 rfl mfl_X0_31 rfl rfl dX0_nearestPair_61 ?_
            refine lv_pc (q := 64) rfl ?_
            refine lv_iload hx hb dX0_nearestPair_64 (lv_at hl 1 rfl) ?_
            refine uIald (i := (nI j9)) (j := j9) B hP 1 rfl (nI_in (by omega) (by omega)) (nI_clamp (by omega)) dX0_nearestPair_66 ?_
            refine lv_if_le (tgt := 87) hx hb dX0_nearestPair_67 (by decide) (fun c37 => ?_) (fun c37 => ?_)
            · refine lv_iinc (v := nI (j9 + 1)) (lv' := [(4, .int (nI (j9 + 1))), (5, .int (f_C_c5 a36)), (3, .int (nI j1)), (2, .int y11), (1, .int y10), (0, .ref a_C)]) hx hb dX0_nearestPair_87 hl (k := 1) rfl (nI_1 _) (by decide) rfl (fun ls hl => ?_)
              refine lv_goto (tgt := 21) hx hb dX0_nearestPair_90 (by decide) ?_
              refine lv_pc (q := 21) rfl ?_
              refine W.widen (k := 0) (n := 0) (Nat.le_of_ble_eq_true rfl) (Nat.le_of_ble_eq_true rfl) ?_
              exact ih21 (j9 + 1) y10 y11 (by omega) ly10 uy10 (uwNqN xi_12 (fun q9 => q9.2.2 ((uwLe0 (i_uwLn j9 (by omega)) (by omega)).mp c37))) xd_13 (by omega) _ _ _ (uSub hP [15, 16, 0, 17, 18, 1, 2, 3, 4, 5, 6, 7, 8, 9, 10, 11, 12, 13, 14] rfl) (hD.sub [15, 16, 0, 17, 18, 1, 2, 3, 4, 5, 6, 7, 8, 9, 10, 11, 12, 13, 14] rfl rfl) hS (lv_sub hl [0, 2, 3, 4, 5] rfl)
            refine lv_iload hx hb dX0_nearestPair_70 (lv_at hl 0 rfl) ?_
            refine lv_iload_n hx hb dX0_nearestPair_72 rfl (lv_at hl 3 rfl) ?_
            refine lv_icmp_ge (tgt := 87) hx hb dX0_nearestPair_73 (by decide) (fun c38 => ?_) (fun c38 => ?_)
            · refine lv_pc (q := 87) rfl ?_
              refine lv_iinc (v := nI (j9 + 1)) (lv' := [(4, .int (nI (j9 + 1))), (5, .int (f_C_c5 a36)), (3, .int (nI j1)), (2, .int y11), (1, .int y10), (0, .ref a_C)]) hx hb dX0_nearestPair_87 hl (k := 1) rfl (nI_1 _) (by decide) rfl (fun ls hl => ?_)
              refine lv_goto (tgt := 21) hx hb dX0_nearestPair_90 (by decide) ?_
              refine lv_pc (q := 21) rfl ?_
              refine W.widen (k := 0) (n := 0) (Nat.le_of_ble_eq_true rfl) (Nat.le_of_ble_eq_true rfl) ?_
              exact ih21 (j9 + 1) y10 y11 (by omega) ly10 uy10 (uwNqZ xi_12 xd_13 (by omega) (uwGd hs9 rfl ea36 (by omega)) (Int32.not_lt.mpr c38) (uwFr i_uwWb (by omega) (by omega) w20.1 (uwGd hs9 rfl ea36 (by omega)))) xd_13 (by omega) _ _ _ (uSub hP [15, 16, 0, 17, 18, 1, 2, 3, 4, 5, 6, 7, 8, 9, 10, 11, 12, 13, 14] rfl) (hD.sub [15, 16, 0, 17, 18, 1, 2, 3, 4, 5, 6, 7, 8, 9, 10, 11, 12, 13, 14] rfl rfl) hS (lv_sub hl [0, 2, 3, 4, 5] rfl)
            refine lv_pc (q := 76) rfl ?_
            refine lv_iload_n hx hb dX0_nearestPair_76 rfl (lv_at hl 2 rfl) ?_
            refine lv_bipush (v := 12) hx hb dX0_nearestPair_77 (by decide) ?_
            refine lv_imul hx hb dX0_nearestPair_79 ?_
            refine lv_fixi (y := (nI (j1 * 12))) (by rw [show (12 : Int32) = nI 12 from rfl, pk_mul]) ?_
            refine lv_iload hx hb dX0_nearestPair_80 (lv_at hl 1 rfl) ?_
            refine lv_iadd hx hb dX0_nearestPair_82 ?_
            refine lv_fixi (y := (nI ((j1 * 12) + j9))) (by rw [nI_add]) ?_
            refine lv_istore_n (lv' := [(1, .int (nI ((j1 * 12) + j9))), (5, .int (f_C_c5 a36)), (4, .int (nI j9)), (3, .int (nI j1)), (2, .int y11), (0, .ref a_C)]) hx hb dX0_nearestPair_83 rfl hl (by decide) rfl (fun ls hl => ?_)
            refine lv_pc (q := 84) rfl ?_
            refine lv_iload hx hb dX0_nearestPair_84 (lv_at hl 1 rfl) ?_
            refine lv_istore_n (lv' := [(2, .int (f_C_c5 a36)), (1, .int (nI ((j1 * 12) + j9))), (5, .int (f_C_c5 a36)), (4, .int (nI j9)), (3, .int (nI j1)), (0, .ref a_C)]) hx hb dX0_nearestPair_86 rfl hl (by decide) rfl (fun ls hl => ?_)
            refine lv_iinc (v := nI (j9 + 1)) (lv' := [(4, .int (nI (j9 + 1))), (2, .int (f_C_c5 a36)), (1, .int (nI ((j1 * 12) + j9))), (5, .int (f_C_c5 a36)), (3, .int (nI j1)), (0, .ref a_C)]) hx hb dX0_nearestPair_87 hl (k := 3) rfl (nI_1 _) (by decide) rfl (fun ls hl => ?_)
            refine lv_goto (tgt := 21) hx hb dX0_nearestPair_90 (by decide) ?_
            refine lv_pc (q := 21) rfl ?_
            refine W.widen (k := 0) (n := 0) (Nat.le_of_ble_eq_true rfl) (Nat.le_of_ble_eq_true rfl) ?_
            exact ih21 (j9 + 1) (nI ((j1 * 12) + j9)) (f_C_c5 a36) (by omega) (uLoN (by simp only [Int32.reduceToInt]; omega) (by omega)) (uHiN (by simp only [Int32.reduceToInt]; omega) (by omega)) (uwNqY xi_12 xd_13 (by omega) (by omega) (by omega) ⟨⟨w20.1, w20.2⟩, i_uwLF j9 (by omega) (fun q9 => c37 ((uwLe0 (i_uwLn j9 (by omega)) (by omega)).mpr q9)), (fun q9 => c37 ((uwLe0 (i_uwLn j9 (by omega)) (by omega)).mpr q9))⟩ (uwGd hs9 rfl ea36 (by omega)) (Int32.not_le.mp c38)) (uwBcI (by omega) (by omega) (uwGd hs9 rfl ea36 (by omega))) (by omega) _ _ _ (uSub hP [15, 16, 0, 17, 18, 1, 2, 3, 4, 5, 6, 7, 8, 9, 10, 11, 12, 13, 14] rfl) (hD.sub [15, 16, 0, 17, 18, 1, 2, 3, 4, 5, 6, 7, 8, 9, 10, 11, 12, 13, 14] rfl rfl) hS (lv_sub hl [0, 4, 1, 2, 5] rfl)
          · refine uAald (i := (nI j1)) (j := 6) B hP 2 rfl (nI_in (by omega) (by omega)) (by rw [nI_clamp (by omega)]; exact hs9) k_C_costs_6 dX0_nearestPair_46 ?_
            refine lv_aload_n hx hb dX0_nearestPair_47 rfl (lv_at hl 4 rfl) ?_
            refine uGet (ci := 0) (C := RX0) (T := TX0) (N := 9) (v := .ref a_P) B inlX0 hP 15 rfl rfl 1 rfl mfl_X0_45 rfl rfl dX0_nearestPair_48 ?_
            refine uGet (ci := 4) (C := RX4) (T := TX4) (N := 10) (v := .ref a_P_cells) B inlX4 hP 16 rfl rfl 3 rfl mfl_X0_68 rfl rfl dX0_nearestPair_51 ?_
            refine lv_pc (q := 54) rfl ?_
            refine lv_iload hx hb dX0_nearestPair_54 (lv_at hl 0 rfl) ?_
            refine uIald (i := (nI j9)) (j := j9) B hP 0 rfl (nI_in (by omega) (by omega)) (nI_clamp (by omega)) dX0_nearestPair_56 ?_
            obtain ⟨a39, ha39, ea39⟩ := uRnat r_P_cells j9 (by decide)
            simp only [Int32.reduceToInt] at ha39
            refine lv_fixi (y := (nI a39)) ea39 ?_
            refine uIald (i := (nI a39)) (j := a39) B hP 9 rfl (nI_in (by omega) (by omega)) (nI_clamp (by omega)) dX0_nearestPair_57 ?_
            refine lv_istore (lv' := [(5, .int (f_C_c6 a39)), (4, .int (nI j9)), (3, .int (nI j1)), (2, .int y11), (1, .int y10), (0, .ref a_C)]) hx hb dX0_nearestPair_58 hl (by decide) rfl (fun ls hl => ?_)
            refine lv_aload_n hx hb dX0_nearestPair_60 rfl (lv_at hl 5 rfl) ?_
            refine uGet (ci := 0) (C := RX0) (T := TX0) (N := 9) (v := .ref a_C_lacks) B inlX0 hP 15 rfl rfl 6 rfl mfl_X0_31 rfl rfl dX0_nearestPair_61 ?_
            refine lv_pc (q := 64) rfl ?_
            refine lv_iload hx hb dX0_nearestPair_64 (lv_at hl 1 rfl) ?_
            refine uIald (i := (nI j9)) (j := j9) B hP 1 rfl (nI_in (by omega) (by omega)) (nI_clamp (by omega)) dX0_nearestPair_66 ?_
            refine lv_if_le (tgt := 87) hx hb dX0_nearestPair_67 (by decide) (fun c40 => ?_) (fun c40 => ?_)
            · refine lv_iinc (v := nI (j9 + 1)) (lv' := [(4, .int (nI (j9 + 1))), (5, .int (f_C_c6 a39)), (3, .int (nI j1)), (2, .int y11), (1, .int y10), (0, .ref a_C)]) hx hb dX0_nearestPair_87 hl (k := 1) rfl (nI_1 _) (by decide) rfl (fun ls hl => ?_)
              refine lv_goto (tgt := 21) hx hb dX0_nearestPair_90 (by decide) ?_
              refine lv_pc (q := 21) rfl ?_
              refine W.widen (k := 0) (n := 0) (Nat.le_of_ble_eq_true rfl) (Nat.le_of_ble_eq_true rfl) ?_
              exact ih21 (j9 + 1) y10 y11 (by omega) ly10 uy10 (uwNqN xi_12 (fun q9 => q9.2.2 ((uwLe0 (i_uwLn j9 (by omega)) (by omega)).mp c40))) xd_13 (by omega) _ _ _ (uSub hP [15, 16, 0, 17, 18, 1, 2, 3, 4, 5, 6, 7, 8, 9, 10, 11, 12, 13, 14] rfl) (hD.sub [15, 16, 0, 17, 18, 1, 2, 3, 4, 5, 6, 7, 8, 9, 10, 11, 12, 13, 14] rfl rfl) hS (lv_sub hl [0, 2, 3, 4, 5] rfl)
            refine lv_iload hx hb dX0_nearestPair_70 (lv_at hl 0 rfl) ?_
            refine lv_iload_n hx hb dX0_nearestPair_72 rfl (lv_at hl 3 rfl) ?_
            refine lv_icmp_ge (tgt := 87) hx hb dX0_nearestPair_73 (by decide) (fun c41 => ?_) (fun c41 => ?_)
            · refine lv_pc (q := 87) rfl ?_
              refine lv_iinc (v := nI (j9 + 1)) (lv' := [(4, .int (nI (j9 + 1))), (5, .int (f_C_c6 a39)), (3, .int (nI j1)), (2, .int y11), (1, .int y10), (0, .ref a_C)]) hx hb dX0_nearestPair_87 hl (k := 1) rfl (nI_1 _) (by decide) rfl (fun ls hl => ?_)
              refine lv_goto (tgt := 21) hx hb dX0_nearestPair_90 (by decide) ?_
              refine lv_pc (q := 21) rfl ?_
              refine W.widen (k := 0) (n := 0) (Nat.le_of_ble_eq_true rfl) (Nat.le_of_ble_eq_true rfl) ?_
              exact ih21 (j9 + 1) y10 y11 (by omega) ly10 uy10 (uwNqZ xi_12 xd_13 (by omega) (uwGd hs9 rfl ea39 (by omega)) (Int32.not_lt.mpr c41) (uwFr i_uwWb (by omega) (by omega) w20.1 (uwGd hs9 rfl ea39 (by omega)))) xd_13 (by omega) _ _ _ (uSub hP [15, 16, 0, 17, 18, 1, 2, 3, 4, 5, 6, 7, 8, 9, 10, 11, 12, 13, 14] rfl) (hD.sub [15, 16, 0, 17, 18, 1, 2, 3, 4, 5, 6, 7, 8, 9, 10, 11, 12, 13, 14] rfl rfl) hS (lv_sub hl [0, 2, 3, 4, 5] rfl)
            refine lv_pc (q := 76) rfl ?_
            refine lv_iload_n hx hb dX0_nearestPair_76 rfl (lv_at hl 2 rfl) ?_
            refine lv_bipush (v := 12) hx hb dX0_nearestPair_77 (by decide) ?_
            refine lv_imul hx hb dX0_nearestPair_79 ?_
            refine lv_fixi (y := (nI (j1 * 12))) (by rw [show (12 : Int32) = nI 12 from rfl, pk_mul]) ?_
            refine lv_iload hx hb dX0_nearestPair_80 (lv_at hl 1 rfl) ?_
            refine lv_iadd hx hb dX0_nearestPair_82 ?_
            refine lv_fixi (y := (nI ((j1 * 12) + j9))) (by rw [nI_add]) ?_
            refine lv_istore_n (lv' := [(1, .int (nI ((j1 * 12) + j9))), (5, .int (f_C_c6 a39)), (4, .int (nI j9)), (3, .int (nI j1)), (2, .int y11), (0, .ref a_C)]) hx hb dX0_nearestPair_83 rfl hl (by decide) rfl (fun ls hl => ?_)
            refine lv_pc (q := 84) rfl ?_
            refine lv_iload hx hb dX0_nearestPair_84 (lv_at hl 1 rfl) ?_
            refine lv_istore_n (lv' := [(2, .int (f_C_c6 a39)), (1, .int (nI ((j1 * 12) + j9))), (5, .int (f_C_c6 a39)), (4, .int (nI j9)), (3, .int (nI j1)), (0, .ref a_C)]) hx hb dX0_nearestPair_86 rfl hl (by decide) rfl (fun ls hl => ?_)
            refine lv_iinc (v := nI (j9 + 1)) (lv' := [(4, .int (nI (j9 + 1))), (2, .int (f_C_c6 a39)), (1, .int (nI ((j1 * 12) + j9))), (5, .int (f_C_c6 a39)), (3, .int (nI j1)), (0, .ref a_C)]) hx hb dX0_nearestPair_87 hl (k := 3) rfl (nI_1 _) (by decide) rfl (fun ls hl => ?_)
            refine lv_goto (tgt := 21) hx hb dX0_nearestPair_90 (by decide) ?_
            refine lv_pc (q := 21) rfl ?_
            refine W.widen (k := 0) (n := 0) (Nat.le_of_ble_eq_true rfl) (Nat.le_of_ble_eq_true rfl) ?_
            exact ih21 (j9 + 1) (nI ((j1 * 12) + j9)) (f_C_c6 a39) (by omega) (uLoN (by simp only [Int32.reduceToInt]; omega) (by omega)) (uHiN (by simp only [Int32.reduceToInt]; omega) (by omega)) (uwNqY xi_12 xd_13 (by omega) (by omega) (by omega) ⟨⟨w20.1, w20.2⟩, i_uwLF j9 (by omega) (fun q9 => c40 ((uwLe0 (i_uwLn j9 (by omega)) (by omega)).mpr q9)), (fun q9 => c40 ((uwLe0 (i_uwLn j9 (by omega)) (by omega)).mpr q9))⟩ (uwGd hs9 rfl ea39 (by omega)) (Int32.not_le.mp c41)) (uwBcI (by omega) (by omega) (uwGd hs9 rfl ea39 (by omega))) (by omega) _ _ _ (uSub hP [15, 16, 0, 17, 18, 1, 2, 3, 4, 5, 6, 7, 8, 9, 10, 11, 12, 13, 14] rfl) (hD.sub [15, 16, 0, 17, 18, 1, 2, 3, 4, 5, 6, 7, 8, 9, 10, 11, 12, 13, 14] rfl rfl) hS (lv_sub hl [0, 4, 1, 2, 5] rfl)
          · refine uAald (i := (nI j1)) (j := 7) B hP 2 rfl (nI_in (by omega) (by omega)) (by rw [nI_clamp (by omega)]; exact hs9) k_C_costs_7 dX0_nearestPair_46 ?_
            refine lv_aload_n hx hb dX0_nearestPair_47 rfl (lv_at hl 4 rfl) ?_
            refine uGet (ci := 0) (C := RX0) (T := TX0) (N := 9) (v := .ref a_P) B inlX0 hP 15 rfl rfl 1 rfl mfl_X0_45 rfl rfl dX0_nearestPair_48 ?_
            refine uGet (ci := 4) (C := RX4) (T := TX4) (N := 10) (v := .ref a_P_cells) B inlX4 hP 16 rfl rfl 3 rfl mfl_X0_68 rfl rfl dX0_nearestPair_51 ?_
            refine lv_pc (q := 54) rfl ?_
            refine lv_iload hx hb dX0_nearestPair_54 (lv_at hl 0 rfl) ?_
            refine uIald (i := (nI j9)) (j := j9) B hP 0 rfl (nI_in (by omega) (by omega)) (nI_clamp (by omega)) dX0_nearestPair_56 ?_
            obtain ⟨a42, ha42, ea42⟩ := uRnat r_P_cells j9 (by decide)
            simp only [Int32.reduceToInt] at ha42
            refine lv_fixi (y := (nI a42)) ea42 ?_
            refine uIald (i := (nI a42)) (j := a42) B hP 10 rfl (nI_in (by omega) (by omega)) (nI_clamp (by omega)) dX0_nearestPair_57 ?_
            refine lv_istore (lv' := [(5, .int (f_C_c7 a42)), (4, .int (nI j9)), (3, .int (nI j1)), (2, .int y11), (1, .int y10), (0, .ref a_C)]) hx hb dX0_nearestPair_58 hl (by decide) rfl (fun ls hl => ?_)
            refine lv_aload_n hx hb dX0_nearestPair_60 rfl (lv_at hl 5 rfl) ?_
            refine uGet (ci := 0) (C := RX0) (T := TX0) (N := 9) (v := .ref a_C_lacks) B inlX0 hP 15 rfl rfl 6 rfl mfl_X0_31 rfl rfl dX0_nearestPair_61 ?_
            refine lv_pc (q := 64) rfl ?_
            refine lv_iload hx hb dX0_nearestPair_64 (lv_at hl 1 rfl) ?_
            refine uIald (i := (nI j9)) (j := j9) B hP 1 rfl (nI_in (by omega) (by omega)) (nI_clamp (by omega)) dX0_nearestPair_66 ?_
            refine lv_if_le (tgt := 87) hx hb dX0_nearestPair_67 (by decide) (fun c43 => ?_) (fun c43 => ?_)
            · refine lv_iinc (v := nI (j9 + 1)) (lv' := [(4, .int (nI (j9 + 1))), (5, .int (f_C_c7 a42)), (3, .int (nI j1)), (2, .int y11), (1, .int y10), (0, .ref a_C)]) hx hb dX0_nearestPair_87 hl (k := 1) rfl (nI_1 _) (by decide) rfl (fun ls hl => ?_)
              refine lv_goto (tgt := 21) hx hb dX0_nearestPair_90 (by decide) ?_
              refine lv_pc (q := 21) rfl ?_
              refine W.widen (k := 0) (n := 0) (Nat.le_of_ble_eq_true rfl) (Nat.le_of_ble_eq_true rfl) ?_
              exact ih21 (j9 + 1) y10 y11 (by omega) ly10 uy10 (uwNqN xi_12 (fun q9 => q9.2.2 ((uwLe0 (i_uwLn j9 (by omega)) (by omega)).mp c43))) xd_13 (by omega) _ _ _ (uSub hP [15, 16, 0, 17, 18, 1, 2, 3, 4, 5, 6, 7, 8, 9, 10, 11, 12, 13, 14] rfl) (hD.sub [15, 16, 0, 17, 18, 1, 2, 3, 4, 5, 6, 7, 8, 9, 10, 11, 12, 13, 14] rfl rfl) hS (lv_sub hl [0, 2, 3, 4, 5] rfl)
            refine lv_iload hx hb dX0_nearestPair_70 (lv_at hl 0 rfl) ?_
            refine lv_iload_n hx hb dX0_nearestPair_72 rfl (lv_at hl 3 rfl) ?_
            refine lv_icmp_ge (tgt := 87) hx hb dX0_nearestPair_73 (by decide) (fun c44 => ?_) (fun c44 => ?_)
            · refine lv_pc (q := 87) rfl ?_
              refine lv_iinc (v := nI (j9 + 1)) (lv' := [(4, .int (nI (j9 + 1))), (5, .int (f_C_c7 a42)), (3, .int (nI j1)), (2, .int y11), (1, .int y10), (0, .ref a_C)]) hx hb dX0_nearestPair_87 hl (k := 1) rfl (nI_1 _) (by decide) rfl (fun ls hl => ?_)
              refine lv_goto (tgt := 21) hx hb dX0_nearestPair_90 (by decide) ?_
              refine lv_pc (q := 21) rfl ?_
              refine W.widen (k := 0) (n := 0) (Nat.le_of_ble_eq_true rfl) (Nat.le_of_ble_eq_true rfl) ?_
              exact ih21 (j9 + 1) y10 y11 (by omega) ly10 uy10 (uwNqZ xi_12 xd_13 (by omega) (uwGd hs9 rfl ea42 (by omega)) (Int32.not_lt.mpr c44) (uwFr i_uwWb (by omega) (by omega) w20.1 (uwGd hs9 rfl ea42 (by omega)))) xd_13 (by omega) _ _ _ (uSub hP [15, 16, 0, 17, 18, 1, 2, 3, 4, 5, 6, 7, 8, 9, 10, 11, 12, 13, 14] rfl) (hD.sub [15, 16, 0, 17, 18, 1, 2, 3, 4, 5, 6, 7, 8, 9, 10, 11, 12, 13, 14] rfl rfl) hS (lv_sub hl [0, 2, 3, 4, 5] rfl)
            refine lv_pc (q := 76) rfl ?_
            refine lv_iload_n hx hb dX0_nearestPair_76 rfl (lv_at hl 2 rfl) ?_
            refine lv_bipush (v := 12) hx hb dX0_nearestPair_77 (by decide) ?_
            refine lv_imul hx hb dX0_nearestPair_79 ?_
            refine lv_fixi (y := (nI (j1 * 12))) (by rw [show (12 : Int32) = nI 12 from rfl, pk_mul]) ?_
            refine lv_iload hx hb dX0_nearestPair_80 (lv_at hl 1 rfl) ?_
            refine lv_iadd hx hb dX0_nearestPair_82 ?_
            refine lv_fixi (y := (nI ((j1 * 12) + j9))) (by rw [nI_add]) ?_
            refine lv_istore_n (lv' := [(1, .int (nI ((j1 * 12) + j9))), (5, .int (f_C_c7 a42)), (4, .int (nI j9)), (3, .int (nI j1)), (2, .int y11), (0, .ref a_C)]) hx hb dX0_nearestPair_83 rfl hl (by decide) rfl (fun ls hl => ?_)
            refine lv_pc (q := 84) rfl ?_
            refine lv_iload hx hb dX0_nearestPair_84 (lv_at hl 1 rfl) ?_
            refine lv_istore_n (lv' := [(2, .int (f_C_c7 a42)), (1, .int (nI ((j1 * 12) + j9))), (5, .int (f_C_c7 a42)), (4, .int (nI j9)), (3, .int (nI j1)), (0, .ref a_C)]) hx hb dX0_nearestPair_86 rfl hl (by decide) rfl (fun ls hl => ?_)
            refine lv_iinc (v := nI (j9 + 1)) (lv' := [(4, .int (nI (j9 + 1))), (2, .int (f_C_c7 a42)), (1, .int (nI ((j1 * 12) + j9))), (5, .int (f_C_c7 a42)), (3, .int (nI j1)), (0, .ref a_C)]) hx hb dX0_nearestPair_87 hl (k := 3) rfl (nI_1 _) (by decide) rfl (fun ls hl => ?_)
            refine lv_goto (tgt := 21) hx hb dX0_nearestPair_90 (by decide) ?_
            refine lv_pc (q := 21) rfl ?_
            refine W.widen (k := 0) (n := 0) (Nat.le_of_ble_eq_true rfl) (Nat.le_of_ble_eq_true rfl) ?_
            exact ih21 (j9 + 1) (nI ((j1 * 12) + j9)) (f_C_c7 a42) (by omega) (uLoN (by simp only [Int32.reduceToInt]; omega) (by omega)) (uHiN (by simp only [Int32.reduceToInt]; omega) (by omega)) (uwNqY xi_12 xd_13 (by omega) (by omega) (by omega) ⟨⟨w20.1, w20.2⟩, i_uwLF j9 (by omega) (fun q9 => c43 ((uwLe0 (i_uwLn j9 (by omega)) (by omega)).mpr q9)), (fun q9 => c43 ((uwLe0 (i_uwLn j9 (by omega)) (by omega)).mpr q9))⟩ (uwGd hs9 rfl ea42 (by omega)) (Int32.not_le.mp c44)) (uwBcI (by omega) (by omega) (uwGd hs9 rfl ea42 (by omega))) (by omega) _ _ _ (uSub hP [15, 16, 0, 17, 18, 1, 2, 3, 4, 5, 6, 7, 8, 9, 10, 11, 12, 13, 14] rfl) (hD.sub [15, 16, 0, 17, 18, 1, 2, 3, 4, 5, 6, 7, 8, 9, 10, 11, 12, 13, 14] rfl rfl) hS (lv_sub hl [0, 4, 1, 2, 5] rfl)
          · refine uAald (i := (nI j1)) (j := 8) B hP 2 rfl (nI_in (by omega) (by omega)) (by rw [nI_clamp (by omega)]; exact hs9) k_C_costs_8 dX0_nearestPair_46 ?_
            refine lv_aload_n hx hb dX0_nearestPair_47 rfl (lv_at hl 4 rfl) ?_
            refine uGet (ci := 0) (C := RX0) (T := TX0) (N := 9) (v := .ref a_P) B inlX0 hP 15 rfl rfl 1 rfl mfl_X0_45 rfl rfl dX0_nearestPair_48 ?_
            refine uGet (ci := 4) (C := RX4) (T := TX4) (N := 10) (v := .ref a_P_cells) B inlX4 hP 16 rfl rfl 3 rfl mfl_X0_68 rfl rfl dX0_nearestPair_51 ?_
            refine lv_pc (q := 54) rfl ?_
            refine lv_iload hx hb dX0_nearestPair_54 (lv_at hl 0 rfl) ?_
            refine uIald (i := (nI j9)) (j := j9) B hP 0 rfl (nI_in (by omega) (by omega)) (nI_clamp (by omega)) dX0_nearestPair_56 ?_
            obtain ⟨a45, ha45, ea45⟩ := uRnat r_P_cells j9 (by decide)
            simp only [Int32.reduceToInt] at ha45
            refine lv_fixi (y := (nI a45)) ea45 ?_
            refine uIald (i := (nI a45)) (j := a45) B hP 11 rfl (nI_in (by omega) (by omega)) (nI_clamp (by omega)) dX0_nearestPair_57 ?_
            refine lv_istore (lv' := [(5, .int (f_C_c8 a45)), (4, .int (nI j9)), (3, .int (nI j1)), (2, .int y11), (1, .int y10), (0, .ref a_C)]) hx hb dX0_nearestPair_58 hl (by decide) rfl (fun ls hl => ?_)
            refine lv_aload_n hx hb dX0_nearestPair_60 rfl (lv_at hl 5 rfl) ?_
            refine uGet (ci := 0) (C := RX0) (T := TX0) (N := 9) (v := .ref a_C_lacks) B inlX0 hP 15 rfl rfl 6 rfl mfl_X0_31 rfl rfl dX0_nearestPair_61 ?_
            refine lv_pc (q := 64) rfl ?_
            refine lv_iload hx hb dX0_nearestPair_64 (lv_at hl 1 rfl) ?_
            refine uIald (i := (nI j9)) (j := j9) B hP 1 rfl (nI_in (by omega) (by omega)) (nI_clamp (by omega)) dX0_nearestPair_66 ?_
            refine lv_if_le (tgt := 87) hx hb dX0_nearestPair_67 (by decide) (fun c46 => ?_) (fun c46 => ?_)
            · refine lv_iinc (v := nI (j9 + 1)) (lv' := [(4, .int (nI (j9 + 1))), (5, .int (f_C_c8 a45)), (3, .int (nI j1)), (2, .int y11), (1, .int y10), (0, .ref a_C)]) hx hb dX0_nearestPair_87 hl (k := 1) rfl (nI_1 _) (by decide) rfl (fun ls hl => ?_)
              refine lv_goto (tgt := 21) hx hb dX0_nearestPair_90 (by decide) ?_
              refine lv_pc (q := 21) rfl ?_
              refine W.widen (k := 0) (n := 0) (Nat.le_of_ble_eq_true rfl) (Nat.le_of_ble_eq_true rfl) ?_
              exact ih21 (j9 + 1) y10 y11 (by omega) ly10 uy10 (uwNqN xi_12 (fun q9 => q9.2.2 ((uwLe0 (i_uwLn j9 (by omega)) (by omega)).mp c46))) xd_13 (by omega) _ _ _ (uSub hP [15, 16, 0, 17, 18, 1, 2, 3, 4, 5, 6, 7, 8, 9, 10, 11, 12, 13, 14] rfl) (hD.sub [15, 16, 0, 17, 18, 1, 2, 3, 4, 5, 6, 7, 8, 9, 10, 11, 12, 13, 14] rfl rfl) hS (lv_sub hl [0, 2, 3, 4, 5] rfl)
            refine lv_iload hx hb dX0_nearestPair_70 (lv_at hl 0 rfl) ?_
            refine lv_iload_n hx hb dX0_nearestPair_72 rfl (lv_at hl 3 rfl) ?_
            refine lv_icmp_ge (tgt := 87) hx hb dX0_nearestPair_73 (by decide) (fun c47 => ?_) (fun c47 => ?_)
            · refine lv_pc (q := 87) rfl ?_
              refine lv_iinc (v := nI (j9 + 1)) (lv' := [(4, .int (nI (j9 + 1))), (5, .int (f_C_c8 a45)), (3, .int (nI j1)), (2, .int y11), (1, .int y10), (0, .ref a_C)]) hx hb dX0_nearestPair_87 hl (k := 1) rfl (nI_1 _) (by decide) rfl (fun ls hl => ?_)
              refine lv_goto (tgt := 21) hx hb dX0_nearestPair_90 (by decide) ?_
              refine lv_pc (q := 21) rfl ?_
              refine W.widen (k := 0) (n := 0) (Nat.le_of_ble_eq_true rfl) (Nat.le_of_ble_eq_true rfl) ?_
              exact ih21 (j9 + 1) y10 y11 (by omega) ly10 uy10 (uwNqZ xi_12 xd_13 (by omega) (uwGd hs9 rfl ea45 (by omega)) (Int32.not_lt.mpr c47) (uwFr i_uwWb (by omega) (by omega) w20.1 (uwGd hs9 rfl ea45 (by omega)))) xd_13 (by omega) _ _ _ (uSub hP [15, 16, 0, 17, 18, 1, 2, 3, 4, 5, 6, 7, 8, 9, 10, 11, 12, 13, 14] rfl) (hD.sub [15, 16, 0, 17, 18, 1, 2, 3, 4, 5, 6, 7, 8, 9, 10, 11, 12, 13, 14] rfl rfl) hS (lv_sub hl [0, 2, 3, 4, 5] rfl)
            refine lv_pc (q := 76) rfl ?_
            refine lv_iload_n hx hb dX0_nearestPair_76 rfl (lv_at hl 2 rfl) ?_
            refine lv_bipush (v := 12) hx hb dX0_nearestPair_77 (by decide) ?_
            refine lv_imul hx hb dX0_nearestPair_79 ?_
            refine lv_fixi (y := (nI (j1 * 12))) (by rw [show (12 : Int32) = nI 12 from rfl, pk_mul]) ?_
            refine lv_iload hx hb dX0_nearestPair_80 (lv_at hl 1 rfl) ?_
            refine lv_iadd hx hb dX0_nearestPair_82 ?_
            refine lv_fixi (y := (nI ((j1 * 12) + j9))) (by rw [nI_add]) ?_
            refine lv_istore_n (lv' := [(1, .int (nI ((j1 * 12) + j9))), (5, .int (f_C_c8 a45)), (4, .int (nI j9)), (3, .int (nI j1)), (2, .int y11), (0, .ref a_C)]) hx hb dX0_nearestPair_83 rfl hl (by decide) rfl (fun ls hl => ?_)
            refine lv_pc (q := 84) rfl ?_
            refine lv_iload hx hb dX0_nearestPair_84 (lv_at hl 1 rfl) ?_
            refine lv_istore_n (lv' := [(2, .int (f_C_c8 a45)), (1, .int (nI ((j1 * 12) + j9))), (5, .int (f_C_c8 a45)), (4, .int (nI j9)), (3, .int (nI j1)), (0, .ref a_C)]) hx hb dX0_nearestPair_86 rfl hl (by decide) rfl (fun ls hl => ?_)
            refine lv_iinc (v := nI (j9 + 1)) (lv' := [(4, .int (nI (j9 + 1))), (2, .int (f_C_c8 a45)), (1, .int (nI ((j1 * 12) + j9))), (5, .int (f_C_c8 a45)), (3, .int (nI j1)), (0, .ref a_C)]) hx hb dX0_nearestPair_87 hl (k := 3) rfl (nI_1 _) (by decide) rfl (fun ls hl => ?_)
            refine lv_goto (tgt := 21) hx hb dX0_nearestPair_90 (by decide) ?_
            refine lv_pc (q := 21) rfl ?_
            refine W.widen (k := 0) (n := 0) (Nat.le_of_ble_eq_true rfl) (Nat.le_of_ble_eq_true rfl) ?_
            exact ih21 (j9 + 1) (nI ((j1 * 12) + j9)) (f_C_c8 a45) (by omega) (uLoN (by simp only [Int32.reduceToInt]; omega) (by omega)) (uHiN (by simp only [Int32.reduceToInt]; omega) (by omega)) (uwNqY xi_12 xd_13 (by omega) (by omega) (by omega) ⟨⟨w20.1, w20.2⟩, i_uwLF j9 (by omega) (fun q9 => c46 ((uwLe0 (i_uwLn j9 (by omega)) (by omega)).mpr q9)), (fun q9 => c46 ((uwLe0 (i_uwLn j9 (by omega)) (by omega)).mpr q9))⟩ (uwGd hs9 rfl ea45 (by omega)) (Int32.not_le.mp c47)) (uwBcI (by omega) (by omega) (uwGd hs9 rfl ea45 (by omega))) (by omega) _ _ _ (uSub hP [15, 16, 0, 17, 18, 1, 2, 3, 4, 5, 6, 7, 8, 9, 10, 11, 12, 13, 14] rfl) (hD.sub [15, 16, 0, 17, 18, 1, 2, 3, 4, 5, 6, 7, 8, 9, 10, 11, 12, 13, 14] rfl rfl) hS (lv_sub hl [0, 4, 1, 2, 5] rfl)
          · refine uAald (i := (nI j1)) (j := 9) B hP 2 rfl (nI_in (by omega) (by omega)) (by rw [nI_clamp (by omega)]; exact hs9) k_C_costs_9 dX0_nearestPair_46 ?_
            refine lv_aload_n hx hb dX0_nearestPair_47 rfl (lv_at hl 4 rfl) ?_
            refine uGet (ci := 0) (C := RX0) (T := TX0) (N := 9) (v := .ref a_P) B inlX0 hP 15 rfl rfl 1 rfl mfl_X0_45 rfl rfl dX0_nearestPair_48 ?_
            refine uGet (ci := 4) (C := RX4) (T := TX4) (N := 10) (v := .ref a_P_cells) B inlX4 hP 16 rfl rfl 3 rfl mfl_X0_68 rfl rfl dX0_nearestPair_51 ?_
            refine lv_pc (q := 54) rfl ?_
            refine lv_iload hx hb dX0_nearestPair_54 (lv_at hl 0 rfl) ?_
            refine uIald (i := (nI j9)) (j := j9) B hP 0 rfl (nI_in (by omega) (by omega)) (nI_clamp (by omega)) dX0_nearestPair_56 ?_
            obtain ⟨a48, ha48, ea48⟩ := uRnat r_P_cells j9 (by decide)
            simp only [Int32.reduceToInt] at ha48
            refine lv_fixi (y := (nI a48)) ea48 ?_
            refine uIald (i := (nI a48)) (j := a48) B hP 12 rfl (nI_in (by omega) (by omega)) (nI_clamp (by omega)) dX0_nearestPair_57 ?_
            refine lv_istore (lv' := [(5, .int (f_C_c9 a48)), (4, .int (nI j9)), (3, .int (nI j1)), (2, .int y11), (1, .int y10), (0, .ref a_C)]) hx hb dX0_nearestPair_58 hl (by decide) rfl (fun ls hl => ?_)
            refine lv_aload_n hx hb dX0_nearestPair_60 rfl (lv_at hl 5 rfl) ?_
            refine uGet (ci := 0) (C := RX0) (T := TX0) (N := 9) (v := .ref a_C_lacks) B inlX0 hP 15 rfl rfl 6 rfl mfl_X0_31 rfl rfl dX0_nearestPair_61 ?_
            refine lv_pc (q := 64) rfl ?_
            refine lv_iload hx hb dX0_nearestPair_64 (lv_at hl 1 rfl) ?_
            refine uIald (i := (nI j9)) (j := j9) B hP 1 rfl (nI_in (by omega) (by omega)) (nI_clamp (by omega)) dX0_nearestPair_66 ?_
            refine lv_if_le (tgt := 87) hx hb dX0_nearestPair_67 (by decide) (fun c49 => ?_) (fun c49 => ?_)
            · refine lv_iinc (v := nI (j9 + 1)) (lv' := [(4, .int (nI (j9 + 1))), (5, .int (f_C_c9 a48)), (3, .int (nI j1)), (2, .int y11), (1, .int y10), (0, .ref a_C)]) hx hb dX0_nearestPair_87 hl (k := 1) rfl (nI_1 _) (by decide) rfl (fun ls hl => ?_)
              refine lv_goto (tgt := 21) hx hb dX0_nearestPair_90 (by decide) ?_
              refine lv_pc (q := 21) rfl ?_
              refine W.widen (k := 0) (n := 0) (Nat.le_of_ble_eq_true rfl) (Nat.le_of_ble_eq_true rfl) ?_
              exact ih21 (j9 + 1) y10 y11 (by omega) ly10 uy10 (uwNqN xi_12 (fun q9 => q9.2.2 ((uwLe0 (i_uwLn j9 (by omega)) (by omega)).mp c49))) xd_13 (by omega) _ _ _ (uSub hP [15, 16, 0, 17, 18, 1, 2, 3, 4, 5, 6, 7, 8, 9, 10, 11, 12, 13, 14] rfl) (hD.sub [15, 16, 0, 17, 18, 1, 2, 3, 4, 5, 6, 7, 8, 9, 10, 11, 12, 13, 14] rfl rfl) hS (lv_sub hl [0, 2, 3, 4, 5] rfl)
            refine lv_iload hx hb dX0_nearestPair_70 (lv_at hl 0 rfl) ?_
            refine lv_iload_n hx hb dX0_nearestPair_72 rfl (lv_at hl 3 rfl) ?_
            refine lv_icmp_ge (tgt := 87) hx hb dX0_nearestPair_73 (by decide) (fun c50 => ?_) (fun c50 => ?_)
            · refine lv_pc (q := 87) rfl ?_
              refine lv_iinc (v := nI (j9 + 1)) (lv' := [(4, .int (nI (j9 + 1))), (5, .int (f_C_c9 a48)), (3, .int (nI j1)), (2, .int y11), (1, .int y10), (0, .ref a_C)]) hx hb dX0_nearestPair_87 hl (k := 1) rfl (nI_1 _) (by decide) rfl (fun ls hl => ?_)
              refine lv_goto (tgt := 21) hx hb dX0_nearestPair_90 (by decide) ?_
              refine lv_pc (q := 21) rfl ?_
              refine W.widen (k := 0) (n := 0) (Nat.le_of_ble_eq_true rfl) (Nat.le_of_ble_eq_true rfl) ?_
              exact ih21 (j9 + 1) y10 y11 (by omega) ly10 uy10 (uwNqZ xi_12 xd_13 (by omega) (uwGd hs9 rfl ea48 (by omega)) (Int32.not_lt.mpr c50) (uwFr i_uwWb (by omega) (by omega) w20.1 (uwGd hs9 rfl ea48 (by omega)))) xd_13 (by omega) _ _ _ (uSub hP [15, 16, 0, 17, 18, 1, 2, 3, 4, 5, 6, 7, 8, 9, 10, 11, 12, 13, 14] rfl) (hD.sub [15, 16, 0, 17, 18, 1, 2, 3, 4, 5, 6, 7, 8, 9, 10, 11, 12, 13, 14] rfl rfl) hS (lv_sub hl [0, 2, 3, 4, 5] rfl)
            refine lv_pc (q := 76) rfl ?_
            refine lv_iload_n hx hb dX0_nearestPair_76 rfl (lv_at hl 2 rfl) ?_
            refine lv_bipush (v := 12) hx hb dX0_nearestPair_77 (by decide) ?_
            refine lv_imul hx hb dX0_nearestPair_79 ?_
            refine lv_fixi (y := (nI (j1 * 12))) (by rw [show (12 : Int32) = nI 12 from rfl, pk_mul]) ?_
            refine lv_iload hx hb dX0_nearestPair_80 (lv_at hl 1 rfl) ?_
            refine lv_iadd hx hb dX0_nearestPair_82 ?_
            refine lv_fixi (y := (nI ((j1 * 12) + j9))) (by rw [nI_add]) ?_
            refine lv_istore_n (lv' := [(1, .int (nI ((j1 * 12) + j9))), (5, .int (f_C_c9 a48)), (4, .int (nI j9)), (3, .int (nI j1)), (2, .int y11), (0, .ref a_C)]) hx hb dX0_nearestPair_83 rfl hl (by decide) rfl (fun ls hl => ?_)
            refine lv_pc (q := 84) rfl ?_
            refine lv_iload hx hb dX0_nearestPair_84 (lv_at hl 1 rfl) ?_
            refine lv_istore_n (lv' := [(2, .int (f_C_c9 a48)), (1, .int (nI ((j1 * 12) + j9))), (5, .int (f_C_c9 a48)), (4, .int (nI j9)), (3, .int (nI j1)), (0, .ref a_C)]) hx hb dX0_nearestPair_86 rfl hl (by decide) rfl (fun ls hl => ?_)
            refine lv_iinc (v := nI (j9 + 1)) (lv' := [(4, .int (nI (j9 + 1))), (2, .int (f_C_c9 a48)), (1, .int (nI ((j1 * 12) + j9))), (5, .int (f_C_c9 a48)), (3, .int (nI j1)), (0, .ref a_C)]) hx hb dX0_nearestPair_87 hl (k := 3) rfl (nI_1 _) (by decide) rfl (fun ls hl => ?_)
            refine lv_goto (tgt := 21) hx hb dX0_nearestPair_90 (by decide) ?_
            refine lv_pc (q := 21) rfl ?_
            refine W.widen (k := 0) (n := 0) (Nat.le_of_ble_eq_true rfl) (Nat.le_of_ble_eq_true rfl) ?_
            exact ih21 (j9 + 1) (nI ((j1 * 12) + j9)) (f_C_c9 a48) (by omega) (uLoN (by simp only [Int32.reduceToInt]; omega) (by omega)) (uHiN (by simp only [Int32.reduceToInt]; omega) (by omega)) (uwNqY xi_12 xd_13 (by omega) (by omega) (by omega) ⟨⟨w20.1, w20.2⟩, i_uwLF j9 (by omega) (fun q9 => c49 ((uwLe0 (i_uwLn j9 (by omega)) (by omega)).mpr q9)), (fun q9 => c49 ((uwLe0 (i_uwLn j9 (by omega)) (by omega)).mpr q9))⟩ (uwGd hs9 rfl ea48 (by omega)) (Int32.not_le.mp c50)) (uwBcI (by omega) (by omega) (uwGd hs9 rfl ea48 (by omega))) (by omega) _ _ _ (uSub hP [15, 16, 0, 17, 18, 1, 2, 3, 4, 5, 6, 7, 8, 9, 10, 11, 12, 13, 14] rfl) (hD.sub [15, 16, 0, 17, 18, 1, 2, 3, 4, 5, 6, 7, 8, 9, 10, 11, 12, 13, 14] rfl rfl) hS (lv_sub hl [0, 4, 1, 2, 5] rfl)
          · refine uAald (i := (nI j1)) (j := 10) B hP 2 rfl (nI_in (by omega) (by omega)) (by rw [nI_clamp (by omega)]; exact hs9) k_C_costs_10 dX0_nearestPair_46 ?_
            refine lv_aload_n hx hb dX0_nearestPair_47 rfl (lv_at hl 4 rfl) ?_
            refine uGet (ci := 0) (C := RX0) (T := TX0) (N := 9) (v := .ref a_P) B inlX0 hP 15 rfl rfl 1 rfl mfl_X0_45 rfl rfl dX0_nearestPair_48 ?_
            refine uGet (ci := 4) (C := RX4) (T := TX4) (N := 10) (v := .ref a_P_cells) B inlX4 hP 16 rfl rfl 3 rfl mfl_X0_68 rfl rfl dX0_nearestPair_51 ?_
            refine lv_pc (q := 54) rfl ?_
            refine lv_iload hx hb dX0_nearestPair_54 (lv_at hl 0 rfl) ?_
            refine uIald (i := (nI j9)) (j := j9) B hP 0 rfl (nI_in (by omega) (by omega)) (nI_clamp (by omega)) dX0_nearestPair_56 ?_
            obtain ⟨a51, ha51, ea51⟩ := uRnat r_P_cells j9 (by decide)
            simp only [Int32.reduceToInt] at ha51
            refine lv_fixi (y := (nI a51)) ea51 ?_
            refine uIald (i := (nI a51)) (j := a51) B hP 13 rfl (nI_in (by omega) (by omega)) (nI_clamp (by omega)) dX0_nearestPair_57 ?_
            refine lv_istore (lv' := [(5, .int (f_C_c10 a51)), (4, .int (nI j9)), (3, .int (nI j1)), (2, .int y11), (1, .int y10), (0, .ref a_C)]) hx hb dX0_nearestPair_58 hl (by decide) rfl (fun ls hl => ?_)
            refine lv_aload_n hx hb dX0_nearestPair_60 rfl (lv_at hl 5 rfl) ?_
            refine uGet (ci := 0) (C := RX0) (T := TX0) (N := 9) (v := .ref a_C_lacks) B inlX0 hP 15 rfl rfl 6 rfl mfl_X0_31 rfl rfl dX0_nearestPair_61 ?_
            refine lv_pc (q := 64) rfl ?_
            refine lv_iload hx hb dX0_nearestPair_64 (lv_at hl 1 rfl) ?_
            refine uIald (i := (nI j9)) (j := j9) B hP 1 rfl (nI_in (by omega) (by omega)) (nI_clamp (by omega)) dX0_nearestPair_66 ?_
            refine lv_if_le (tgt := 87) hx hb dX0_nearestPair_67 (by decide) (fun c52 => ?_) (fun c52 => ?_)
            · refine lv_iinc (v := nI (j9 + 1)) (lv' := [(4, .int (nI (j9 + 1))), (5, .int (f_C_c10 a51)), (3, .int (nI j1)), (2, .int y11), (1, .int y10), (0, .ref a_C)]) hx hb dX0_nearestPair_87 hl (k := 1) rfl (nI_1 _) (by decide) rfl (fun ls hl => ?_)
              refine lv_goto (tgt := 21) hx hb dX0_nearestPair_90 (by decide) ?_
              refine lv_pc (q := 21) rfl ?_
              refine W.widen (k := 0) (n := 0) (Nat.le_of_ble_eq_true rfl) (Nat.le_of_ble_eq_true rfl) ?_
              exact ih21 (j9 + 1) y10 y11 (by omega) ly10 uy10 (uwNqN xi_12 (fun q9 => q9.2.2 ((uwLe0 (i_uwLn j9 (by omega)) (by omega)).mp c52))) xd_13 (by omega) _ _ _ (uSub hP [15, 16, 0, 17, 18, 1, 2, 3, 4, 5, 6, 7, 8, 9, 10, 11, 12, 13, 14] rfl) (hD.sub [15, 16, 0, 17, 18, 1, 2, 3, 4, 5, 6, 7, 8, 9, 10, 11, 12, 13, 14] rfl rfl) hS (lv_sub hl [0, 2, 3, 4, 5] rfl)
            refine lv_iload hx hb dX0_nearestPair_70 (lv_at hl 0 rfl) ?_
            refine lv_iload_n hx hb dX0_nearestPair_72 rfl (lv_at hl 3 rfl) ?_
            refine lv_icmp_ge (tgt := 87) hx hb dX0_nearestPair_73 (by decide) (fun c53 => ?_) (fun c53 => ?_)
            · refine lv_pc (q := 87) rfl ?_
              refine lv_iinc (v := nI (j9 + 1)) (lv' := [(4, .int (nI (j9 + 1))), (5, .int (f_C_c10 a51)), (3, .int (nI j1)), (2, .int y11), (1, .int y10), (0, .ref a_C)]) hx hb dX0_nearestPair_87 hl (k := 1) rfl (nI_1 _) (by decide) rfl (fun ls hl => ?_)
              refine lv_goto (tgt := 21) hx hb dX0_nearestPair_90 (by decide) ?_
              refine lv_pc (q := 21) rfl ?_
              refine W.widen (k := 0) (n := 0) (Nat.le_of_ble_eq_true rfl) (Nat.le_of_ble_eq_true rfl) ?_
              exact ih21 (j9 + 1) y10 y11 (by omega) ly10 uy10 (uwNqZ xi_12 xd_13 (by omega) (uwGd hs9 rfl ea51 (by omega)) (Int32.not_lt.mpr c53) (uwFr i_uwWb (by omega) (by omega) w20.1 (uwGd hs9 rfl ea51 (by omega)))) xd_13 (by omega) _ _ _ (uSub hP [15, 16, 0, 17, 18, 1, 2, 3, 4, 5, 6, 7, 8, 9, 10, 11, 12, 13, 14] rfl) (hD.sub [15, 16, 0, 17, 18, 1, 2, 3, 4, 5, 6, 7, 8, 9, 10, 11, 12, 13, 14] rfl rfl) hS (lv_sub hl [0, 2, 3, 4, 5] rfl)
            refine lv_pc (q := 76) rfl ?_
            refine lv_iload_n hx hb dX0_nearestPair_76 rfl (lv_at hl 2 rfl) ?_
            refine lv_bipush (v := 12) hx hb dX0_nearestPair_77 (by decide) ?_
            refine lv_imul hx hb dX0_nearestPair_79 ?_
            refine lv_fixi (y := (nI (j1 * 12))) (by rw [show (12 : Int32) = nI 12 from rfl, pk_mul]) ?_
            refine lv_iload hx hb dX0_nearestPair_80 (lv_at hl 1 rfl) ?_
            refine lv_iadd hx hb dX0_nearestPair_82 ?_
            refine lv_fixi (y := (nI ((j1 * 12) + j9))) (by rw [nI_add]) ?_
            refine lv_istore_n (lv' := [(1, .int (nI ((j1 * 12) + j9))), (5, .int (f_C_c10 a51)), (4, .int (nI j9)), (3, .int (nI j1)), (2, .int y11), (0, .ref a_C)]) hx hb dX0_nearestPair_83 rfl hl (by decide) rfl (fun ls hl => ?_)
            refine lv_pc (q := 84) rfl ?_
            refine lv_iload hx hb dX0_nearestPair_84 (lv_at hl 1 rfl) ?_
            refine lv_istore_n (lv' := [(2, .int (f_C_c10 a51)), (1, .int (nI ((j1 * 12) + j9))), (5, .int (f_C_c10 a51)), (4, .int (nI j9)), (3, .int (nI j1)), (0, .ref a_C)]) hx hb dX0_nearestPair_86 rfl hl (by decide) rfl (fun ls hl => ?_)
            refine lv_iinc (v := nI (j9 + 1)) (lv' := [(4, .int (nI (j9 + 1))), (2, .int (f_C_c10 a51)), (1, .int (nI ((j1 * 12) + j9))), (5, .int (f_C_c10 a51)), (3, .int (nI j1)), (0, .ref a_C)]) hx hb dX0_nearestPair_87 hl (k := 3) rfl (nI_1 _) (by decide) rfl (fun ls hl => ?_)
            refine lv_goto (tgt := 21) hx hb dX0_nearestPair_90 (by decide) ?_
            refine lv_pc (q := 21) rfl ?_
            refine W.widen (k := 0) (n := 0) (Nat.le_of_ble_eq_true rfl) (Nat.le_of_ble_eq_true rfl) ?_
            exact ih21 (j9 + 1) (nI ((j1 * 12) + j9)) (f_C_c10 a51) (by omega) (uLoN (by simp only [Int32.reduceToInt]; omega) (by omega)) (uHiN (by simp only [Int32.reduceToInt]; omega) (by omega)) (uwNqY xi_12 xd_13 (by omega) (by omega) (by omega) ⟨⟨w20.1, w20.2⟩, i_uwLF j9 (by omega) (fun q9 => c52 ((uwLe0 (i_uwLn j9 (by omega)) (by omega)).mpr q9)), (fun q9 => c52 ((uwLe0 (i_uwLn j9 (by omega)) (by omega)).mpr q9))⟩ (uwGd hs9 rfl ea51 (by omega)) (Int32.not_le.mp c53)) (uwBcI (by omega) (by omega) (uwGd hs9 rfl ea51 (by omega))) (by omega) _ _ _ (uSub hP [15, 16, 0, 17, 18, 1, 2, 3, 4, 5, 6, 7, 8, 9, 10, 11, 12, 13, 14] rfl) (hD.sub [15, 16, 0, 17, 18, 1, 2, 3, 4, 5, 6, 7, 8, 9, 10, 11, 12, 13, 14] rfl rfl) hS (lv_sub hl [0, 4, 1, 2, 5] rfl)
          refine uAald (i := (nI j1)) (j := 11) B hP 2 rfl (nI_in (by omega) (by omega)) (by rw [nI_clamp (by omega)]; exact hs9) k_C_costs_11 dX0_nearestPair_46 ?_
          refine lv_aload_n hx hb dX0_nearestPair_47 rfl (lv_at hl 4 rfl) ?_
          refine uGet (ci := 0) (C := RX0) (T := TX0) (N := 9) (v := .ref a_P) B inlX0 hP 15 rfl rfl 1 rfl mfl_X0_45 rfl rfl dX0_nearestPair_48 ?_
          refine uGet (ci := 4) (C := RX4) (T := TX4) (N := 10) (v := .ref a_P_cells) B inlX4 hP 16 rfl rfl 3 rfl mfl_X0_68 rfl rfl dX0_nearestPair_51 ?_
          refine lv_pc (q := 54) rfl ?_
          refine lv_iload hx hb dX0_nearestPair_54 (lv_at hl 0 rfl) ?_
          refine uIald (i := (nI j9)) (j := j9) B hP 0 rfl (nI_in (by omega) (by omega)) (nI_clamp (by omega)) dX0_nearestPair_56 ?_
          obtain ⟨a54, ha54, ea54⟩ := uRnat r_P_cells j9 (by decide)
          simp only [Int32.reduceToInt] at ha54
          refine lv_fixi (y := (nI a54)) ea54 ?_
          refine uIald (i := (nI a54)) (j := a54) B hP 14 rfl (nI_in (by omega) (by omega)) (nI_clamp (by omega)) dX0_nearestPair_57 ?_
          refine lv_istore (lv' := [(5, .int (f_C_c11 a54)), (4, .int (nI j9)), (3, .int (nI j1)), (2, .int y11), (1, .int y10), (0, .ref a_C)]) hx hb dX0_nearestPair_58 hl (by decide) rfl (fun ls hl => ?_)
          refine lv_aload_n hx hb dX0_nearestPair_60 rfl (lv_at hl 5 rfl) ?_
          refine uGet (ci := 0) (C := RX0) (T := TX0) (N := 9) (v := .ref a_C_lacks) B inlX0 hP 15 rfl rfl 6 rfl mfl_X0_31 rfl rfl dX0_nearestPair_61 ?_
          refine lv_pc (q := 64) rfl ?_
          refine lv_iload hx hb dX0_nearestPair_64 (lv_at hl 1 rfl) ?_
          refine uIald (i := (nI j9)) (j := j9) B hP 1 rfl (nI_in (by omega) (by omega)) (nI_clamp (by omega)) dX0_nearestPair_66 ?_
          refine lv_if_le (tgt := 87) hx hb dX0_nearestPair_67 (by decide) (fun c55 => ?_) (fun c55 => ?_)
          · refine lv_iinc (v := nI (j9 + 1)) (lv' := [(4, .int (nI (j9 + 1))), (5, .int (f_C_c11 a54)), (3, .int (nI j1)), (2, .int y11), (1, .int y10), (0, .ref a_C)]) hx hb dX0_nearestPair_87 hl (k := 1) rfl (nI_1 _) (by decide) rfl (fun ls hl => ?_)
            refine lv_goto (tgt := 21) hx hb dX0_nearestPair_90 (by decide) ?_
            refine lv_pc (q := 21) rfl ?_
            refine W.widen (k := 0) (n := 0) (Nat.le_of_ble_eq_true rfl) (Nat.le_of_ble_eq_true rfl) ?_
            exact ih21 (j9 + 1) y10 y11 (by omega) ly10 uy10 (uwNqN xi_12 (fun q9 => q9.2.2 ((uwLe0 (i_uwLn j9 (by omega)) (by omega)).mp c55))) xd_13 (by omega) _ _ _ (uSub hP [15, 16, 0, 17, 18, 1, 2, 3, 4, 5, 6, 7, 8, 9, 10, 11, 12, 13, 14] rfl) (hD.sub [15, 16, 0, 17, 18, 1, 2, 3, 4, 5, 6, 7, 8, 9, 10, 11, 12, 13, 14] rfl rfl) hS (lv_sub hl [0, 2, 3, 4, 5] rfl)
          refine lv_iload hx hb dX0_nearestPair_70 (lv_at hl 0 rfl) ?_
          refine lv_iload_n hx hb dX0_nearestPair_72 rfl (lv_at hl 3 rfl) ?_
          refine lv_icmp_ge (tgt := 87) hx hb dX0_nearestPair_73 (by decide) (fun c56 => ?_) (fun c56 => ?_)
          · refine lv_pc (q := 87) rfl ?_
            refine lv_iinc (v := nI (j9 + 1)) (lv' := [(4, .int (nI (j9 + 1))), (5, .int (f_C_c11 a54)), (3, .int (nI j1)), (2, .int y11), (1, .int y10), (0, .ref a_C)]) hx hb dX0_nearestPair_87 hl (k := 1) rfl (nI_1 _) (by decide) rfl (fun ls hl => ?_)
            refine lv_goto (tgt := 21) hx hb dX0_nearestPair_90 (by decide) ?_
            refine lv_pc (q := 21) rfl ?_
            refine W.widen (k := 0) (n := 0) (Nat.le_of_ble_eq_true rfl) (Nat.le_of_ble_eq_true rfl) ?_
            exact ih21 (j9 + 1) y10 y11 (by omega) ly10 uy10 (uwNqZ xi_12 xd_13 (by omega) (uwGd hs9 rfl ea54 (by omega)) (Int32.not_lt.mpr c56) (uwFr i_uwWb (by omega) (by omega) w20.1 (uwGd hs9 rfl ea54 (by omega)))) xd_13 (by omega) _ _ _ (uSub hP [15, 16, 0, 17, 18, 1, 2, 3, 4, 5, 6, 7, 8, 9, 10, 11, 12, 13, 14] rfl) (hD.sub [15, 16, 0, 17, 18, 1, 2, 3, 4, 5, 6, 7, 8, 9, 10, 11, 12, 13, 14] rfl rfl) hS (lv_sub hl [0, 2, 3, 4, 5] rfl)
          refine lv_pc (q := 76) rfl ?_
          refine lv_iload_n hx hb dX0_nearestPair_76 rfl (lv_at hl 2 rfl) ?_
          refine lv_bipush (v := 12) hx hb dX0_nearestPair_77 (by decide) ?_
          refine lv_imul hx hb dX0_nearestPair_79 ?_
          refine lv_fixi (y := (nI (j1 * 12))) (by rw [show (12 : Int32) = nI 12 from rfl, pk_mul]) ?_
          refine lv_iload hx hb dX0_nearestPair_80 (lv_at hl 1 rfl) ?_
          refine lv_iadd hx hb dX0_nearestPair_82 ?_
          refine lv_fixi (y := (nI ((j1 * 12) + j9))) (by rw [nI_add]) ?_
          refine lv_istore_n (lv' := [(1, .int (nI ((j1 * 12) + j9))), (5, .int (f_C_c11 a54)), (4, .int (nI j9)), (3, .int (nI j1)), (2, .int y11), (0, .ref a_C)]) hx hb dX0_nearestPair_83 rfl hl (by decide) rfl (fun ls hl => ?_)
          refine lv_pc (q := 84) rfl ?_
          refine lv_iload hx hb dX0_nearestPair_84 (lv_at hl 1 rfl) ?_
          refine lv_istore_n (lv' := [(2, .int (f_C_c11 a54)), (1, .int (nI ((j1 * 12) + j9))), (5, .int (f_C_c11 a54)), (4, .int (nI j9)), (3, .int (nI j1)), (0, .ref a_C)]) hx hb dX0_nearestPair_86 rfl hl (by decide) rfl (fun ls hl => ?_)
          refine lv_iinc (v := nI (j9 + 1)) (lv' := [(4, .int (nI (j9 + 1))), (2, .int (f_C_c11 a54)), (1, .int (nI ((j1 * 12) + j9))), (5, .int (f_C_c11 a54)), (3, .int (nI j1)), (0, .ref a_C)]) hx hb dX0_nearestPair_87 hl (k := 3) rfl (nI_1 _) (by decide) rfl (fun ls hl => ?_)
          refine lv_goto (tgt := 21) hx hb dX0_nearestPair_90 (by decide) ?_
          refine lv_pc (q := 21) rfl ?_
          refine W.widen (k := 0) (n := 0) (Nat.le_of_ble_eq_true rfl) (Nat.le_of_ble_eq_true rfl) ?_
          exact ih21 (j9 + 1) (nI ((j1 * 12) + j9)) (f_C_c11 a54) (by omega) (uLoN (by simp only [Int32.reduceToInt]; omega) (by omega)) (uHiN (by simp only [Int32.reduceToInt]; omega) (by omega)) (uwNqY xi_12 xd_13 (by omega) (by omega) (by omega) ⟨⟨w20.1, w20.2⟩, i_uwLF j9 (by omega) (fun q9 => c55 ((uwLe0 (i_uwLn j9 (by omega)) (by omega)).mpr q9)), (fun q9 => c55 ((uwLe0 (i_uwLn j9 (by omega)) (by omega)).mpr q9))⟩ (uwGd hs9 rfl ea54 (by omega)) (Int32.not_le.mp c56)) (uwBcI (by omega) (by omega) (uwGd hs9 rfl ea54 (by omega))) (by omega) _ _ _ (uSub hP [15, 16, 0, 17, 18, 1, 2, 3, 4, 5, 6, 7, 8, 9, 10, 11, 12, 13, 14] rfl) (hD.sub [15, 16, 0, 17, 18, 1, 2, 3, 4, 5, 6, 7, 8, 9, 10, 11, 12, 13, 14] rfl rfl) hS (lv_sub hl [0, 4, 1, 2, 5] rfl)
      refine lv_pc (q := 21) rfl ?_
      refine W.widen (k := 0) (n := 0) (Nat.le_of_ble_eq_true rfl) (Nat.le_of_ble_eq_true rfl) ?_
      exact L15 ((v_P_size - 0) + 1) 0 y2 y3 (by omega) ly2 uy2 xo_4 xb_5 (Nat.lt_succ_self _) _ _ _ hP hD hS hl
  refine lv_pc (q := 7) rfl ?_
  refine W.widen (k := 0) (n := 0) (Nat.le_of_ble_eq_true rfl) (Nat.le_of_ble_eq_true rfl) ?_
  exact L7 ((v_P_size - 0) + 1) 0 (-1) 1073741823 (by omega) (by (try dsimp only); decide) (by (try dsimp only); decide) uwNq0 (Or.inl ⟨rfl, rfl⟩) (Nat.lt_succ_self _) _ _ _ hP hD hS hl
def qwX0_carry_vc (a_C : Nat) (v_C_postsThen : Nat) (a_P : Nat) (v_P_size : Nat) (a_P_cells : Nat) (f_P_cells : Nat → Int32) (a_P_stores : Nat) (f_P_stores : Nat → Int32) (a_C_came : Nat) (f_C_came : Nat → Int32) (a_C_lacks : Nat) (f_C_lacks : Nat → Int32) (a_C_firstFrom : Nat) (f_C_firstFrom : Nat → Int32) (a_C_costs : Nat) (f_C_costs : Nat → Option Nat) (a_C_c0 : Nat) (f_C_c0 : Nat → Int32) (a_C_c1 : Nat) (f_C_c1 : Nat → Int32) (a_C_c2 : Nat) (f_C_c2 : Nat → Int32) (a_C_c3 : Nat) (f_C_c3 : Nat → Int32) (a_C_c4 : Nat) (f_C_c4 : Nat → Int32) (a_C_c5 : Nat) (f_C_c5 : Nat → Int32) (a_C_c6 : Nat) (f_C_c6 : Nat → Int32) (a_C_c7 : Nat) (f_C_c7 : Nat → Int32) (a_C_c8 : Nat) (f_C_c8 : Nat → Int32) (a_C_c9 : Nat) (f_C_c9 : Nat → Int32) (a_C_c10 : Nat) (f_C_c10 : Nat → Int32) (a_C_c11 : Nat) (f_C_c11 : Nat → Int32) (a_T : Nat) (a_C_measured : Nat) (a_C_statesThen : Nat) (a_P_xs : Nat) (a_P_ys : Nat) (a_P_lows : Nat) (a_P_highs : Nat) (a_P_states : Nat) (a_P_men : Nat) (x0 : Nat) (x1 : Nat) : Int32 → ((Nat → Int32) × (Nat → Int32) × (Nat → Int32) × (Nat → Int32)) → Prop := (fun (r : Int32) (u : (Nat → Int32) × (Nat → Int32) × (Nat → Int32) × (Nat → Int32)) => uwCy f_P_stores f_C_lacks u.1 u.2.2.1 x0 x1 (([f_C_c0, f_C_c1, f_C_c2, f_C_c3, f_C_c4, f_C_c5, f_C_c6, f_C_c7, f_C_c8, f_C_c9, f_C_c10, f_C_c11] : List (Nat → Int32)).getD x0 (fun _ => 0) (uN (f_P_cells x1))) r)
def vwX0_carry_vc (K : Nat → ClassId) (a_C : Nat) (v_C_postsThen : Nat) (a_P : Nat) (v_P_size : Nat) (a_P_cells : Nat) (f_P_cells : Nat → Int32) (a_P_stores : Nat) (f_P_stores : Nat → Int32) (a_C_came : Nat) (f_C_came : Nat → Int32) (a_C_lacks : Nat) (f_C_lacks : Nat → Int32) (a_C_firstFrom : Nat) (f_C_firstFrom : Nat → Int32) (a_C_costs : Nat) (f_C_costs : Nat → Option Nat) (a_C_c0 : Nat) (f_C_c0 : Nat → Int32) (a_C_c1 : Nat) (f_C_c1 : Nat → Int32) (a_C_c2 : Nat) (f_C_c2 : Nat → Int32) (a_C_c3 : Nat) (f_C_c3 : Nat → Int32) (a_C_c4 : Nat) (f_C_c4 : Nat → Int32) (a_C_c5 : Nat) (f_C_c5 : Nat → Int32) (a_C_c6 : Nat) (f_C_c6 : Nat → Int32) (a_C_c7 : Nat) (f_C_c7 : Nat → Int32) (a_C_c8 : Nat) (f_C_c8 : Nat → Int32) (a_C_c9 : Nat) (f_C_c9 : Nat → Int32) (a_C_c10 : Nat) (f_C_c10 : Nat → Int32) (a_C_c11 : Nat) (f_C_c11 : Nat → Int32) (a_T : Nat) (a_C_measured : Nat) (a_C_statesThen : Nat) (a_P_xs : Nat) (a_P_ys : Nat) (a_P_lows : Nat) (a_P_highs : Nat) (a_P_states : Nat) (a_P_men : Nat) (x0 : Nat) (x1 : Nat) : ((Nat → Int32) × (Nat → Int32) × (Nat → Int32) × (Nat → Int32)) → va_W := (fun (u : (Nat → Int32) × (Nat → Int32) × (Nat → Int32) × (Nat → Int32)) => [(a_C, .inr (0, [.ref a_T, .ref a_P, .ref a_C_costs, .ref a_C_measured, .ref a_C_statesThen, .ref a_C_came, .ref a_C_lacks, .ref a_C_firstFrom, .int (nI v_C_postsThen)])), (a_P, .inr (4, [.ref a_T, .ref a_P_xs, .ref a_P_ys, .ref a_P_cells, .ref a_P_lows, .ref a_P_highs, .ref a_P_states, .ref a_P_men, .ref a_P_stores, .int (nI v_P_size)])), (a_P_cells, .inl (K 0, 12, .inl f_P_cells)), (a_P_stores, .inl (K 0, 12, .inl (u.1))), (a_C_came, .inl (K 0, 12, .inl (u.2.1))), (a_C_lacks, .inl (K 0, 12, .inl (u.2.2.1))), (a_C_firstFrom, .inl (K 0, 12, .inl (u.2.2.2))), (a_C_costs, .inl (K 3, 12, .inr (.inr (.inr (.inr f_C_costs))))), (a_C_c0, .inl (K 0, 256, .inl f_C_c0)), (a_C_c1, .inl (K 0, 256, .inl f_C_c1)), (a_C_c2, .inl (K 0, 256, .inl f_C_c2)), (a_C_c3, .inl (K 0, 256, .inl f_C_c3)), (a_C_c4, .inl (K 0, 256, .inl f_C_c4)), (a_C_c5, .inl (K 0, 256, .inl f_C_c5)), (a_C_c6, .inl (K 0, 256, .inl f_C_c6)), (a_C_c7, .inl (K 0, 256, .inl f_C_c7)), (a_C_c8, .inl (K 0, 256, .inl f_C_c8)), (a_C_c9, .inl (K 0, 256, .inl f_C_c9)), (a_C_c10, .inl (K 0, 256, .inl f_C_c10)), (a_C_c11, .inl (K 0, 256, .inl f_C_c11))])
set_option maxHeartbeats 4000000 in
set_option maxRecDepth 100000 in
theorem wX0_carry_vc (l : Launch) (D : va_G) (K : Nat → ClassId) (sz : Nat) (a_C : Nat) (v_C_postsThen : Nat) (a_P : Nat) (v_P_size : Nat) (a_P_cells : Nat) (f_P_cells : Nat → Int32) (a_P_stores : Nat) (f_P_stores : Nat → Int32) (a_C_came : Nat) (f_C_came : Nat → Int32) (a_C_lacks : Nat) (f_C_lacks : Nat → Int32) (a_C_firstFrom : Nat) (f_C_firstFrom : Nat → Int32) (a_C_costs : Nat) (f_C_costs : Nat → Option Nat) (a_C_c0 : Nat) (f_C_c0 : Nat → Int32) (a_C_c1 : Nat) (f_C_c1 : Nat → Int32) (a_C_c2 : Nat) (f_C_c2 : Nat → Int32) (a_C_c3 : Nat) (f_C_c3 : Nat → Int32) (a_C_c4 : Nat) (f_C_c4 : Nat → Int32) (a_C_c5 : Nat) (f_C_c5 : Nat → Int32) (a_C_c6 : Nat) (f_C_c6 : Nat → Int32) (a_C_c7 : Nat) (f_C_c7 : Nat → Int32) (a_C_c8 : Nat) (f_C_c8 : Nat → Int32) (a_C_c9 : Nat) (f_C_c9 : Nat → Int32) (a_C_c10 : Nat) (f_C_c10 : Nat → Int32) (a_C_c11 : Nat) (f_C_c11 : Nat → Int32) (a_T : Nat) (a_C_measured : Nat) (a_C_statesThen : Nat) (a_P_xs : Nat) (a_P_ys : Nat) (a_P_lows : Nat) (a_P_highs : Nat) (a_P_states : Nat) (a_P_men : Nat) (x0 : Nat) (x1 : Nat) (hv_C_postsThen : v_C_postsThen ≤ 12) (hv_P_size : v_P_size ≤ 12) (r_P_cells : uRg f_P_cells 0 255) (k_C_costs_0 : f_C_costs 0 = some a_C_c0) (k_C_costs_1 : f_C_costs 1 = some a_C_c1) (k_C_costs_2 : f_C_costs 2 = some a_C_c2) (k_C_costs_3 : f_C_costs 3 = some a_C_c3) (k_C_costs_4 : f_C_costs 4 = some a_C_c4) (k_C_costs_5 : f_C_costs 5 = some a_C_c5) (k_C_costs_6 : f_C_costs 6 = some a_C_c6) (k_C_costs_7 : f_C_costs 7 = some a_C_c7) (k_C_costs_8 : f_C_costs 8 = some a_C_c8) (k_C_costs_9 : f_C_costs 9 = some a_C_c9) (k_C_costs_10 : f_C_costs 10 = some a_C_c10) (k_C_costs_11 : f_C_costs 11 = some a_C_c11) (hx0 : x0 < v_P_size) (hx1 : x1 < v_P_size) (i_uwSn : uwNn f_P_stores 9999 v_P_size) (i_uwLn : uwNn f_C_lacks 4950 v_P_size) : uMi l yX0_carry cX0_carry 4 (some .int) { frames := 1, cells := 0, slots := 0, locals := 13 } [.ref a_C, .int (nI x0), .int (nI x1)] D K [(a_C, .inr (0, [.ref a_T, .ref a_P, .ref a_C_costs, .ref a_C_measured, .ref a_C_statesThen, .ref a_C_came, .ref a_C_lacks, .ref a_C_firstFrom, .int (nI v_C_postsThen)])), (a_P, .inr (4, [.ref a_T, .ref a_P_xs, .ref a_P_ys, .ref a_P_cells, .ref a_P_lows, .ref a_P_highs, .ref a_P_states, .ref a_P_men, .ref a_P_stores, .int (nI v_P_size)])), (a_P_cells, .inl (K 0, 12, .inl f_P_cells)), (a_P_stores, .inl (K 0, 12, .inl f_P_stores)), (a_C_came, .inl (K 0, 12, .inl f_C_came)), (a_C_lacks, .inl (K 0, 12, .inl f_C_lacks)), (a_C_firstFrom, .inl (K 0, 12, .inl f_C_firstFrom)), (a_C_costs, .inl (K 3, 12, .inr (.inr (.inr (.inr f_C_costs))))), (a_C_c0, .inl (K 0, 256, .inl f_C_c0)), (a_C_c1, .inl (K 0, 256, .inl f_C_c1)), (a_C_c2, .inl (K 0, 256, .inl f_C_c2)), (a_C_c3, .inl (K 0, 256, .inl f_C_c3)), (a_C_c4, .inl (K 0, 256, .inl f_C_c4)), (a_C_c5, .inl (K 0, 256, .inl f_C_c5)), (a_C_c6, .inl (K 0, 256, .inl f_C_c6)), (a_C_c7, .inl (K 0, 256, .inl f_C_c7)), (a_C_c8, .inl (K 0, 256, .inl f_C_c8)), (a_C_c9, .inl (K 0, 256, .inl f_C_c9)), (a_C_c10, .inl (K 0, 256, .inl f_C_c10)), (a_C_c11, .inl (K 0, 256, .inl f_C_c11))] sz (qwX0_carry_vc a_C v_C_postsThen a_P v_P_size a_P_cells f_P_cells a_P_stores f_P_stores a_C_came f_C_came a_C_lacks f_C_lacks a_C_firstFrom f_C_firstFrom a_C_costs f_C_costs a_C_c0 f_C_c0 a_C_c1 f_C_c1 a_C_c2 f_C_c2 a_C_c3 f_C_c3 a_C_c4 f_C_c4 a_C_c5 f_C_c5 a_C_c6 f_C_c6 a_C_c7 f_C_c7 a_C_c8 f_C_c8 a_C_c9 f_C_c9 a_C_c10 f_C_c10 a_C_c11 f_C_c11 a_T a_C_measured a_C_statesThen a_P_xs a_P_ys a_P_lows a_P_highs a_P_states a_P_men x0 x1) (vwX0_carry_vc K a_C v_C_postsThen a_P v_P_size a_P_cells f_P_cells a_P_stores f_P_stores a_C_came f_C_came a_C_lacks f_C_lacks a_C_firstFrom f_C_firstFrom a_C_costs f_C_costs a_C_c0 f_C_c0 a_C_c1 f_C_c1 a_C_c2 f_C_c2 a_C_c3 f_C_c3 a_C_c4 f_C_c4 a_C_c5 f_C_c5 a_C_c6 f_C_c6 a_C_c7 f_C_c7 a_C_c8 f_C_c8 a_C_c9 f_C_c9 a_C_c10 f_C_c10 a_C_c11 f_C_c11 a_T a_C_measured a_C_statesThen a_P_xs a_P_ys a_P_lows a_P_highs a_P_states a_P_men x0 x1) := by
  refine uMet (Qc := uQi D (qwX0_carry_vc a_C v_C_postsThen a_P v_P_size a_P_cells f_P_cells a_P_stores f_P_stores a_C_came f_C_came a_C_lacks f_C_lacks a_C_firstFrom f_C_firstFrom a_C_costs f_C_costs a_C_c0 f_C_c0 a_C_c1 f_C_c1 a_C_c2 f_C_c2 a_C_c3 f_C_c3 a_C_c4 f_C_c4 a_C_c5 f_C_c5 a_C_c6 f_C_c6 a_C_c7 f_C_c7 a_C_c8 f_C_c8 a_C_c9 f_C_c9 a_C_c10 f_C_c10 a_C_c11 f_C_c11 a_T a_C_measured a_C_statesThen a_P_xs a_P_ys a_P_lows a_P_highs a_P_states a_P_men x0 x1) (vwX0_carry_vc K a_C v_C_postsThen a_P v_P_size a_P_cells f_P_cells a_P_stores f_P_stores a_C_came f_C_came a_C_lacks f_C_lacks a_C_firstFrom f_C_firstFrom a_C_costs f_C_costs a_C_c0 f_C_c0 a_C_c1 f_C_c1 a_C_c2 f_C_c2 a_C_c3 f_C_c3 a_C_c4 f_C_c4 a_C_c5 f_C_c5 a_C_c6 f_C_c6 a_C_c7 f_C_c7 a_C_c8 f_C_c8 a_C_c9 f_C_c9 a_C_c10 f_C_c10 a_C_c11 f_C_c11 a_T a_C_measured a_C_statesThen a_P_xs a_P_ys a_P_lows a_P_highs a_P_states a_P_men x0 x1)) (ret := (some .int)) (by decide) (Nat.le_of_ble_eq_true rfl) ?_
  intro p e s m below meth c A ls hAe hsz B hP hD hS hl
  have hx := B.1
  have hb := B.2.1
  have hl : lv_has ls 4 [(0, .ref a_C), (1, .int (nI x0)), (2, .int (nI x1))] := hl
  refine lv_aload_n hx hb dX0_carry_0 rfl (lv_at hl 0 rfl) ?_
  refine uGet (ci := 0) (C := RX0) (T := TX0) (N := 9) (v := .ref a_P) B inlX0 hP 0 rfl rfl 1 rfl mfl_X0_45 rfl rfl dX0_carry_1 ?_
  refine uGet (ci := 4) (C := RX4) (T := TX4) (N := 10) (v := .ref a_P_stores) B inlX4 hP 1 rfl rfl 8 rfl mfl_X0_125 rfl rfl dX0_carry_4 ?_
  refine lv_iload_n hx hb dX0_carry_7 rfl (lv_at hl 1 rfl) ?_
  refine uIald (i := (nI x0)) (j := x0) B hP 3 rfl (nI_in (by omega) (by omega)) (nI_clamp (by omega)) dX0_carry_8 ?_
  refine lv_pc (q := 9) rfl ?_
  obtain ⟨a1, ha1, ea1⟩ := i_uwSn x0 (by omega)
  refine lv_fixi (y := (nI a1)) ea1 ?_
  refine lv_aload_n hx hb dX0_carry_9 rfl (lv_at hl 0 rfl) ?_
  refine uGet (ci := 0) (C := RX0) (T := TX0) (N := 9) (v := .ref a_C_lacks) B inlX0 hP 0 rfl rfl 6 rfl mfl_X0_31 rfl rfl dX0_carry_10 ?_
  refine lv_iload_n hx hb dX0_carry_13 rfl (lv_at hl 2 rfl) ?_
  refine uIald (i := (nI x1)) (j := x1) B hP 5 rfl (nI_in (by omega) (by omega)) (nI_clamp (by omega)) dX0_carry_14 ?_
  obtain ⟨a2, ha2, ea2⟩ := i_uwLn x1 (by omega)
  refine lv_fixi (y := (nI a2)) ea2 ?_
  refine uMin B hl.1 mml_X0_93 (Nat.le_of_ble_eq_true rfl) (Nat.le_of_ble_eq_true rfl) (Nat.le_of_ble_eq_true rfl) (Nat.le_of_ble_eq_true rfl) dX0_carry_15 ?_
  obtain ⟨a3, ha3, ea3⟩ := uMinN (a := a1) (b := a2) (by omega) (by omega)
  refine lv_fixi (y := (nI a3)) ea3 ?_
  refine lv_istore_n (lv' := [(3, .int (nI a3)), (0, .ref a_C), (1, .int (nI x0)), (2, .int (nI x1))]) hx hb dX0_carry_18 rfl hl (by decide) rfl (fun ls hl => ?_)
  refine lv_pc (q := 19) rfl ?_
  refine lv_aload_n hx hb dX0_carry_19 rfl (lv_at hl 1 rfl) ?_
  refine uGet (ci := 0) (C := RX0) (T := TX0) (N := 9) (v := .ref a_P) B inlX0 hP 0 rfl rfl 1 rfl mfl_X0_45 rfl rfl dX0_carry_20 ?_
  refine uGet (ci := 4) (C := RX4) (T := TX4) (N := 10) (v := .ref a_P_stores) B inlX4 hP 1 rfl rfl 8 rfl mfl_X0_125 rfl rfl dX0_carry_23 ?_
  refine lv_iload_n hx hb dX0_carry_26 rfl (lv_at hl 2 rfl) ?_
  refine lv_dup2_11 hx hb dX0_carry_27 rfl rfl ?_
  refine uIald (i := (nI x0)) (j := x0) B hP 3 rfl (nI_in (by omega) (by omega)) (nI_clamp (by omega)) dX0_carry_28 ?_
  refine lv_pc (q := 29) rfl ?_
  refine lv_fixi (y := (nI a1)) ea1 ?_
  refine lv_iload_n hx hb dX0_carry_29 rfl (lv_at hl 0 rfl) ?_
  refine lv_isub hx hb dX0_carry_30 ?_
  refine lv_fixi (y := (nI (a1 - a3))) (by rw [pk_sub (by omega)]) ?_
  refine uIast (i := (nI x0)) (j := x0) (ws' := [(a_C, .inr (0, [.ref a_T, .ref a_P, .ref a_C_costs, .ref a_C_measured, .ref a_C_statesThen, .ref a_C_came, .ref a_C_lacks, .ref a_C_firstFrom, .int (nI v_C_postsThen)])), (a_P, .inr (4, [.ref a_T, .ref a_P_xs, .ref a_P_ys, .ref a_P_cells, .ref a_P_lows, .ref a_P_highs, .ref a_P_states, .ref a_P_men, .ref a_P_stores, .int (nI v_P_size)])), (a_P_cells, .inl (K 0, 12, .inl f_P_cells)), (a_P_stores, .inl (K 0, 12, .inl (upd f_P_stores x0 (nI (a1 - a3))))), (a_C_came, .inl (K 0, 12, .inl f_C_came)), (a_C_lacks, .inl (K 0, 12, .inl f_C_lacks)), (a_C_firstFrom, .inl (K 0, 12, .inl f_C_firstFrom)), (a_C_costs, .inl (K 3, 12, .inr (.inr (.inr (.inr f_C_costs))))), (a_C_c0, .inl (K 0, 256, .inl f_C_c0)), (a_C_c1, .inl (K 0, 256, .inl f_C_c1)), (a_C_c2, .inl (K 0, 256, .inl f_C_c2)), (a_C_c3, .inl (K 0, 256, .inl f_C_c3)), (a_C_c4, .inl (K 0, 256, .inl f_C_c4)), (a_C_c5, .inl (K 0, 256, .inl f_C_c5)), (a_C_c6, .inl (K 0, 256, .inl f_C_c6)), (a_C_c7, .inl (K 0, 256, .inl f_C_c7)), (a_C_c8, .inl (K 0, 256, .inl f_C_c8)), (a_C_c9, .inl (K 0, 256, .inl f_C_c9)), (a_C_c10, .inl (K 0, 256, .inl f_C_c10)), (a_C_c11, .inl (K 0, 256, .inl f_C_c11))]) B hP hD hS 3 rfl (nI_in (by omega) (by omega)) (nI_clamp (by omega)) rfl dX0_carry_31 (fun H locs hP hD hS => ?_)
  refine lv_aload_n hx hb dX0_carry_32 rfl (lv_at hl 1 rfl) ?_
  refine uGet (ci := 0) (C := RX0) (T := TX0) (N := 9) (v := .ref a_C_lacks) B inlX0 hP 0 rfl rfl 6 rfl mfl_X0_31 rfl rfl dX0_carry_33 ?_
  refine lv_iload_n hx hb dX0_carry_36 rfl (lv_at hl 3 rfl) ?_
  refine lv_pc (q := 37) rfl ?_
  refine lv_dup2_11 hx hb dX0_carry_37 rfl rfl ?_
  refine uIald (i := (nI x1)) (j := x1) B hP 5 rfl (nI_in (by omega) (by omega)) (nI_clamp (by omega)) dX0_carry_38 ?_
  refine lv_fixi (y := (nI a2)) ea2 ?_
  refine lv_iload_n hx hb dX0_carry_39 rfl (lv_at hl 0 rfl) ?_
  refine lv_isub hx hb dX0_carry_40 ?_
  refine lv_fixi (y := (nI (a2 - a3))) (by rw [pk_sub (by omega)]) ?_
  refine uIast (i := (nI x1)) (j := x1) (ws' := [(a_C, .inr (0, [.ref a_T, .ref a_P, .ref a_C_costs, .ref a_C_measured, .ref a_C_statesThen, .ref a_C_came, .ref a_C_lacks, .ref a_C_firstFrom, .int (nI v_C_postsThen)])), (a_P, .inr (4, [.ref a_T, .ref a_P_xs, .ref a_P_ys, .ref a_P_cells, .ref a_P_lows, .ref a_P_highs, .ref a_P_states, .ref a_P_men, .ref a_P_stores, .int (nI v_P_size)])), (a_P_cells, .inl (K 0, 12, .inl f_P_cells)), (a_P_stores, .inl (K 0, 12, .inl (upd f_P_stores x0 (nI (a1 - a3))))), (a_C_came, .inl (K 0, 12, .inl f_C_came)), (a_C_lacks, .inl (K 0, 12, .inl (upd f_C_lacks x1 (nI (a2 - a3))))), (a_C_firstFrom, .inl (K 0, 12, .inl f_C_firstFrom)), (a_C_costs, .inl (K 3, 12, .inr (.inr (.inr (.inr f_C_costs))))), (a_C_c0, .inl (K 0, 256, .inl f_C_c0)), (a_C_c1, .inl (K 0, 256, .inl f_C_c1)), (a_C_c2, .inl (K 0, 256, .inl f_C_c2)), (a_C_c3, .inl (K 0, 256, .inl f_C_c3)), (a_C_c4, .inl (K 0, 256, .inl f_C_c4)), (a_C_c5, .inl (K 0, 256, .inl f_C_c5)), (a_C_c6, .inl (K 0, 256, .inl f_C_c6)), (a_C_c7, .inl (K 0, 256, .inl f_C_c7)), (a_C_c8, .inl (K 0, 256, .inl f_C_c8)), (a_C_c9, .inl (K 0, 256, .inl f_C_c9)), (a_C_c10, .inl (K 0, 256, .inl f_C_c10)), (a_C_c11, .inl (K 0, 256, .inl f_C_c11))]) B hP hD hS 5 rfl (nI_in (by omega) (by omega)) (nI_clamp (by omega)) rfl dX0_carry_41 (fun H locs hP hD hS => ?_)
  refine lv_aload_n hx hb dX0_carry_42 rfl (lv_at hl 1 rfl) ?_
  refine lv_pc (q := 43) rfl ?_
  refine uGet (ci := 0) (C := RX0) (T := TX0) (N := 9) (v := .ref a_C_came) B inlX0 hP 0 rfl rfl 5 rfl mfl_X0_28 rfl rfl dX0_carry_43 ?_
  refine lv_iload_n hx hb dX0_carry_46 rfl (lv_at hl 3 rfl) ?_
  refine lv_dup2_11 hx hb dX0_carry_47 rfl rfl ?_
  refine uIald (i := (nI x1)) (j := x1) B hP 4 rfl (nI_in (by omega) (by omega)) (nI_clamp (by omega)) dX0_carry_48 ?_
  refine lv_iload_n hx hb dX0_carry_49 rfl (lv_at hl 0 rfl) ?_
  refine lv_iadd hx hb dX0_carry_50 ?_
  refine lv_pc (q := 51) rfl ?_
  refine uIast (i := (nI x1)) (j := x1) (ws' := [(a_C, .inr (0, [.ref a_T, .ref a_P, .ref a_C_costs, .ref a_C_measured, .ref a_C_statesThen, .ref a_C_came, .ref a_C_lacks, .ref a_C_firstFrom, .int (nI v_C_postsThen)])), (a_P, .inr (4, [.ref a_T, .ref a_P_xs, .ref a_P_ys, .ref a_P_cells, .ref a_P_lows, .ref a_P_highs, .ref a_P_states, .ref a_P_men, .ref a_P_stores, .int (nI v_P_size)])), (a_P_cells, .inl (K 0, 12, .inl f_P_cells)), (a_P_stores, .inl (K 0, 12, .inl (upd f_P_stores x0 (nI (a1 - a3))))), (a_C_came, .inl (K 0, 12, .inl (upd f_C_came x1 ((f_C_came x1) + (nI a3))))), (a_C_lacks, .inl (K 0, 12, .inl (upd f_C_lacks x1 (nI (a2 - a3))))), (a_C_firstFrom, .inl (K 0, 12, .inl f_C_firstFrom)), (a_C_costs, .inl (K 3, 12, .inr (.inr (.inr (.inr f_C_costs))))), (a_C_c0, .inl (K 0, 256, .inl f_C_c0)), (a_C_c1, .inl (K 0, 256, .inl f_C_c1)), (a_C_c2, .inl (K 0, 256, .inl f_C_c2)), (a_C_c3, .inl (K 0, 256, .inl f_C_c3)), (a_C_c4, .inl (K 0, 256, .inl f_C_c4)), (a_C_c5, .inl (K 0, 256, .inl f_C_c5)), (a_C_c6, .inl (K 0, 256, .inl f_C_c6)), (a_C_c7, .inl (K 0, 256, .inl f_C_c7)), (a_C_c8, .inl (K 0, 256, .inl f_C_c8)), (a_C_c9, .inl (K 0, 256, .inl f_C_c9)), (a_C_c10, .inl (K 0, 256, .inl f_C_c10)), (a_C_c11, .inl (K 0, 256, .inl f_C_c11))]) B hP hD hS 4 rfl (nI_in (by omega) (by omega)) (nI_clamp (by omega)) rfl dX0_carry_51 (fun H locs hP hD hS => ?_)
  refine lv_aload_n hx hb dX0_carry_52 rfl (lv_at hl 1 rfl) ?_
  refine uGet (ci := 0) (C := RX0) (T := TX0) (N := 9) (v := .ref a_C_firstFrom) B inlX0 hP 0 rfl rfl 7 rfl mfl_X0_34 rfl rfl dX0_carry_53 ?_
  refine lv_iload_n hx hb dX0_carry_56 rfl (lv_at hl 3 rfl) ?_
  refine uIald (i := (nI x1)) (j := x1) B hP 6 rfl (nI_in (by omega) (by omega)) (nI_clamp (by omega)) dX0_carry_57 ?_
  refine lv_iconst (v := (-1)) hx hb dX0_carry_58 (by decide) ?_
  refine lv_pc (q := 59) rfl ?_
  refine lv_icmp_ne (tgt := 69) hx hb dX0_carry_59 (by decide) (fun c4 => ?_) (fun c4 => ?_)
  · refine lv_iload_n hx hb dX0_carry_69 rfl (lv_at hl 0 rfl) ?_
    refine lv_aload_n hx hb dX0_carry_70 rfl (lv_at hl 1 rfl) ?_
    refine uGet (ci := 0) (C := RX0) (T := TX0) (N := 9) (v := .ref a_C_costs) B inlX0 hP 0 rfl rfl 2 rfl mfl_X0_15 rfl rfl dX0_carry_71 ?_
    refine lv_iload_n hx hb dX0_carry_74 rfl (lv_at hl 2 rfl) ?_
    have hs9 : x0 = 0 ∨ x0 = 1 ∨ x0 = 2 ∨ x0 = 3 ∨ x0 = 4 ∨ x0 = 5 ∨ x0 = 6 ∨ x0 = 7 ∨ x0 = 8 ∨ x0 = 9 ∨ x0 = 10 ∨ x0 = 11 := by omega
    rcases hs9 with hs9 | hs9 | hs9 | hs9 | hs9 | hs9 | hs9 | hs9 | hs9 | hs9 | hs9 | hs9
    · refine uAald (i := (nI x0)) (j := 0) B hP 7 rfl (nI_in (by omega) (by omega)) (by rw [nI_clamp (by omega)]; exact hs9) k_C_costs_0 dX0_carry_75 ?_
      refine lv_pc (q := 76) rfl ?_
      refine lv_aload_n hx hb dX0_carry_76 rfl (lv_at hl 1 rfl) ?_
      refine uGet (ci := 0) (C := RX0) (T := TX0) (N := 9) (v := .ref a_P) B inlX0 hP 0 rfl rfl 1 rfl mfl_X0_45 rfl rfl dX0_carry_77 ?_
      refine uGet (ci := 4) (C := RX4) (T := TX4) (N := 10) (v := .ref a_P_cells) B inlX4 hP 1 rfl rfl 3 rfl mfl_X0_68 rfl rfl dX0_carry_80 ?_
      refine lv_iload_n hx hb dX0_carry_83 rfl (lv_at hl 3 rfl) ?_
      refine uIald (i := (nI x1)) (j := x1) B hP 2 rfl (nI_in (by omega) (by omega)) (nI_clamp (by omega)) dX0_carry_84 ?_
      obtain ⟨a5, ha5, ea5⟩ := uRnat r_P_cells x1 (by decide)
      simp only [Int32.reduceToInt] at ha5
      refine lv_fixi (y := (nI a5)) ea5 ?_
      refine uIald (i := (nI a5)) (j := a5) B hP 8 rfl (nI_in (by omega) (by omega)) (nI_clamp (by omega)) dX0_carry_85 ?_
      refine lv_pc (q := 86) rfl ?_
      refine lv_imul hx hb dX0_carry_86 ?_
      exact uRi (upd f_P_stores x0 (nI (a1 - a3)), upd f_C_came x1 ((f_C_came x1) + (nI a3)), upd f_C_lacks x1 (nI (a2 - a3)), f_C_firstFrom) B ⟨a3, (by rw [uNe (by omega) ea1, uNe (by omega) ea2]; omega), (by rw [uNe (by omega) ea1, uNe (by omega) ea2]; omega), (by rw [uNe (by omega) ea1]), (by rw [uNe (by omega) ea2]), (by rw [uwGd hs9 rfl ea5 (by omega)] <;> rfl)⟩ (uSub hP [0, 1, 2, 3, 4, 5, 6, 7, 8, 9, 10, 11, 12, 13, 14, 15, 16, 17, 18, 19] rfl) (hD.sub [0, 1, 2, 3, 4, 5, 6, 7, 8, 9, 10, 11, 12, 13, 14, 15, 16, 17, 18, 19] rfl rfl) hS dX0_carry_87
    · refine uAald (i := (nI x0)) (j := 1) B hP 7 rfl (nI_in (by omega) (by omega)) (by rw [nI_clamp (by omega)]; exact hs9) k_C_costs_1 dX0_carry_75 ?_
      refine lv_pc (q := 76) rfl ?_
      refine lv_aload_n hx hb dX0_carry_76 rfl (lv_at hl 1 rfl) ?_
      refine uGet (ci := 0) (C := RX0) (T := TX0) (N := 9) (v := .ref a_P) B inlX0 hP 0 rfl rfl 1 rfl mfl_X0_45 rfl rfl dX0_carry_77 ?_
      refine uGet (ci := 4) (C := RX4) (T := TX4) (N := 10) (v := .ref a_P_cells) B inlX4 hP 1 rfl rfl 3 rfl mfl_X0_68 rfl rfl dX0_carry_80 ?_
      refine lv_iload_n hx hb dX0_carry_83 rfl (lv_at hl 3 rfl) ?_
      refine uIald (i := (nI x1)) (j := x1) B hP 2 rfl (nI_in (by omega) (by omega)) (nI_clamp (by omega)) dX0_carry_84 ?_
      obtain ⟨a6, ha6, ea6⟩ := uRnat r_P_cells x1 (by decide)
      simp only [Int32.reduceToInt] at ha6
      refine lv_fixi (y := (nI a6)) ea6 ?_
      refine uIald (i := (nI a6)) (j := a6) B hP 9 rfl (nI_in (by omega) (by omega)) (nI_clamp (by omega)) dX0_carry_85 ?_
      refine lv_pc (q := 86) rfl ?_
      refine lv_imul hx hb dX0_carry_86 ?_
      exact uRi (upd f_P_stores x0 (nI (a1 - a3)), upd f_C_came x1 ((f_C_came x1) + (nI a3)), upd f_C_lacks x1 (nI (a2 - a3)), f_C_firstFrom) B ⟨a3, (by rw [uNe (by omega) ea1, uNe (by omega) ea2]; omega), (by rw [uNe (by omega) ea1, uNe (by omega) ea2]; omega), (by rw [uNe (by omega) ea1]), (by rw [uNe (by omega) ea2]), (by rw [uwGd hs9 rfl ea6 (by omega)] <;> rfl)⟩ (uSub hP [0, 1, 2, 3, 4, 5, 6, 7, 8, 9, 10, 11, 12, 13, 14, 15, 16, 17, 18, 19] rfl) (hD.sub [0, 1, 2, 3, 4, 5, 6, 7, 8, 9, 10, 11, 12, 13, 14, 15, 16, 17, 18, 19] rfl rfl) hS dX0_carry_87
    · refine uAald (i := (nI x0)) (j := 2) B hP 7 rfl (nI_in (by omega) (by omega)) (by rw [nI_clamp (by omega)]; exact hs9) k_C_costs_2 dX0_carry_75 ?_
      refine lv_pc (q := 76) rfl ?_
      refine lv_aload_n hx hb dX0_carry_76 rfl (lv_at hl 1 rfl) ?_
      refine uGet (ci := 0) (C := RX0) (T := TX0) (N := 9) (v := .ref a_P) B inlX0 hP 0 rfl rfl 1 rfl mfl_X0_45 rfl rfl dX0_carry_77 ?_
      refine uGet (ci := 4) (C := RX4) (T := TX4) (N := 10) (v := .ref a_P_cells) B inlX4 hP 1 rfl rfl 3 rfl mfl_X0_68 rfl rfl dX0_carry_80 ?_
      refine lv_iload_n hx hb dX0_carry_83 rfl (lv_at hl 3 rfl) ?_
      refine uIald (i := (nI x1)) (j := x1) B hP 2 rfl (nI_in (by omega) (by omega)) (nI_clamp (by omega)) dX0_carry_84 ?_
      obtain ⟨a7, ha7, ea7⟩ := uRnat r_P_cells x1 (by decide)
      simp only [Int32.reduceToInt] at ha7
      refine lv_fixi (y := (nI a7)) ea7 ?_
      refine uIald (i := (nI a7)) (j := a7) B hP 10 rfl (nI_in (by omega) (by omega)) (nI_clamp (by omega)) dX0_carry_85 ?_
      refine lv_pc (q := 86) rfl ?_
      refine lv_imul hx hb dX0_carry_86 ?_
      exact uRi (upd f_P_stores x0 (nI (a1 - a3)), upd f_C_came x1 ((f_C_came x1) + (nI a3)), upd f_C_lacks x1 (nI (a2 - a3)), f_C_firstFrom) B ⟨a3, (by rw [uNe (by omega) ea1, uNe (by omega) ea2]; omega), (by rw [uNe (by omega) ea1, uNe (by omega) ea2]; omega), (by rw [uNe (by omega) ea1]), (by rw [uNe (by omega) ea2]), (by rw [uwGd hs9 rfl ea7 (by omega)] <;> rfl)⟩ (uSub hP [0, 1, 2, 3, 4, 5, 6, 7, 8, 9, 10, 11, 12, 13, 14, 15, 16, 17, 18, 19] rfl) (hD.sub [0, 1, 2, 3, 4, 5, 6, 7, 8, 9, 10, 11, 12, 13, 14, 15, 16, 17, 18, 19] rfl rfl) hS dX0_carry_87
    · refine uAald (i := (nI x0)) (j := 3) B hP 7 rfl (nI_in (by omega) (by omega)) (by rw [nI_clamp (by omega)]; exact hs9) k_C_costs_3 dX0_carry_75 ?_
      refine lv_pc (q := 76) rfl ?_
      refine lv_aload_n hx hb dX0_carry_76 rfl (lv_at hl 1 rfl) ?_
      refine uGet (ci := 0) (C := RX0) (T := TX0) (N := 9) (v := .ref a_P) B inlX0 hP 0 rfl rfl 1 rfl mfl_X0_45 rfl rfl dX0_carry_77 ?_
      refine uGet (ci := 4) (C := RX4) (T := TX4) (N := 10) (v := .ref a_P_cells) B inlX4 hP 1 rfl rfl 3 rfl mfl_X0_68 rfl rfl dX0_carry_80 ?_
      refine lv_iload_n hx hb dX0_carry_83 rfl (lv_at hl 3 rfl) ?_
      refine uIald (i := (nI x1)) (j := x1) B hP 2 rfl (nI_in (by omega) (by omega)) (nI_clamp (by omega)) dX0_carry_84 ?_
      obtain ⟨a8, ha8, ea8⟩ := uRnat r_P_cells x1 (by decide)
      simp only [Int32.reduceToInt] at ha8
      refine lv_fixi (y := (nI a8)) ea8 ?_
      refine uIald (i := (nI a8)) (j := a8) B hP 11 rfl (nI_in (by omega) (by omega)) (nI_clamp (by omega)) dX0_carry_85 ?_
      refine lv_pc (q := 86) rfl ?_
      refine lv_imul hx hb dX0_carry_86 ?_
      exact uRi (upd f_P_stores x0 (nI (a1 - a3)), upd f_C_came x1 ((f_C_came x1) + (nI a3)), upd f_C_lacks x1 (nI (a2 - a3)), f_C_firstFrom) B ⟨a3, (by rw [uNe (by omega) ea1, uNe (by omega) ea2]; omega), (by rw [uNe (by omega) ea1, uNe (by omega) ea2]; omega), (by rw [uNe (by omega) ea1]), (by rw [uNe (by omega) ea2]), (by rw [uwGd hs9 rfl ea8 (by omega)] <;> rfl)⟩ (uSub hP [0, 1, 2, 3, 4, 5, 6, 7, 8, 9, 10, 11, 12, 13, 14, 15, 16, 17, 18, 19] rfl) (hD.sub [0, 1, 2, 3, 4, 5, 6, 7, 8, 9, 10, 11, 12, 13, 14, 15, 16, 17, 18, 19] rfl rfl) hS dX0_carry_87
    · refine uAald (i := (nI x0)) (j := 4) B hP 7 rfl (nI_in (by omega) (by omega)) (by rw [nI_clamp (by omega)]; exact hs9) k_C_costs_4 dX0_carry_75 ?_
      refine lv_pc (q := 76) rfl ?_
      refine lv_aload_n hx hb dX0_carry_76 rfl (lv_at hl 1 rfl) ?_
      refine uGet (ci := 0) (C := RX0) (T := TX0) (N := 9) (v := .ref a_P) B inlX0 hP 0 rfl rfl 1 rfl mfl_X0_45 rfl rfl dX0_carry_77 ?_
      refine uGet (ci := 4) (C := RX4) (T := TX4) (N := 10) (v := .ref a_P_cells) B inlX4 hP 1 rfl rfl 3 rfl mfl_X0_68 rfl rfl dX0_carry_80 ?_
      refine lv_iload_n hx hb dX0_carry_83 rfl (lv_at hl 3 rfl) ?_
      refine uIald (i := (nI x1)) (j := x1) B hP 2 rfl (nI_in (by omega) (by omega)) (nI_clamp (by omega)) dX0_carry_84 ?_
      obtain ⟨a9, ha9, ea9⟩ := uRnat r_P_cells x1 (by decide)
      simp only [Int32.reduceToInt] at ha9
      refine lv_fixi (y := (nI a9)) ea9 ?_
      refine uIald (i := (nI a9)) (j := a9) B hP 12 rfl (nI_in (by omega) (by omega)) (nI_clamp (by omega)) dX0_carry_85 ?_
      refine lv_pc (q := 86) rfl ?_
      refine lv_imul hx hb dX0_carry_86 ?_
      exact uRi (upd f_P_stores x0 (nI (a1 - a3)), upd f_C_came x1 ((f_C_came x1) + (nI a3)), upd f_C_lacks x1 (nI (a2 - a3)), f_C_firstFrom) B ⟨a3, (by rw [uNe (by omega) ea1, uNe (by omega) ea2]; omega), (by rw [uNe (by omega) ea1, uNe (by omega) ea2]; omega), (by rw [uNe (by omega) ea1]), (by rw [uNe (by omega) ea2]), (by rw [uwGd hs9 rfl ea9 (by omega)] <;> rfl)⟩ (uSub hP [0, 1, 2, 3, 4, 5, 6, 7, 8, 9, 10, 11, 12, 13, 14, 15, 16, 17, 18, 19] rfl) (hD.sub [0, 1, 2, 3, 4, 5, 6, 7, 8, 9, 10, 11, 12, 13, 14, 15, 16, 17, 18, 19] rfl rfl) hS dX0_carry_87
    · refine uAald (i := (nI x0)) (j := 5) B hP 7 rfl (nI_in (by omega) (by omega)) (by rw [nI_clamp (by omega)]; exact hs9) k_C_costs_5 dX0_carry_75 ?_
      refine lv_pc (q := 76) rfl ?_
      refine lv_aload_n hx hb dX0_carry_76 rfl (lv_at hl 1 rfl) ?_
      refine uGet (ci := 0) (C := RX0) (T := TX0) (N := 9) (v := .ref a_P) B inlX0 hP 0 rfl rfl 1 rfl mfl_X0_45 rfl rfl dX0_carry_77 ?_
      refine uGet (ci := 4) (C := RX4) (T := TX4) (N := 10) (v := .ref a_P_cells) B inlX4 hP 1 rfl rfl 3 rfl mfl_X0_68 rfl rfl dX0_carry_80 ?_
      refine lv_iload_n hx hb dX0_carry_83 rfl (lv_at hl 3 rfl) ?_
      refine uIald (i := (nI x1)) (j := x1) B hP 2 rfl (nI_in (by omega) (by omega)) (nI_clamp (by omega)) dX0_carry_84 ?_
      obtain ⟨a10, ha10, ea10⟩ := uRnat r_P_cells x1 (by decide)
      simp only [Int32.reduceToInt] at ha10
      refine lv_fixi (y := (nI a10)) ea10 ?_
      refine uIald (i := (nI a10)) (j := a10) B hP 13 rfl (nI_in (by omega) (by omega)) (nI_clamp (by omega)) dX0_carry_85 ?_
      refine lv_pc (q := 86) rfl ?_
      refine lv_imul hx hb dX0_carry_86 ?_
      exact uRi (upd f_P_stores x0 (nI (a1 - a3)), upd f_C_came x1 ((f_C_came x1) + (nI a3)), upd f_C_lacks x1 (nI (a2 - a3)), f_C_firstFrom) B ⟨a3, (by rw [uNe (by omega) ea1, uNe (by omega) ea2]; omega), (by rw [uNe (by omega) ea1, uNe (by omega) ea2]; omega), (by rw [uNe (by omega) ea1]), (by rw [uNe (by omega) ea2]), (by rw [uwGd hs9 rfl ea10 (by omega)] <;> rfl)⟩ (uSub hP [0, 1, 2, 3, 4, 5, 6, 7, 8, 9, 10, 11, 12, 13, 14, 15, 16, 17, 18, 19] rfl) (hD.sub [0, 1, 2, 3, 4, 5, 6, 7, 8, 9, 10, 11, 12, 13, 14, 15, 16, 17, 18, 19] rfl rfl) hS dX0_carry_87
    · refine uAald (i := (nI x0)) (j := 6) B hP 7 rfl (nI_in (by omega) (by omega)) (by rw [nI_clamp (by omega)]; exact hs9) k_C_costs_6 dX0_carry_75 ?_
      refine lv_pc (q := 76) rfl ?_
      refine lv_aload_n hx hb dX0_carry_76 rfl (lv_at hl 1 rfl) ?_
      refine uGet (ci := 0) (C := RX0) (T := TX0) (N := 9) (v := .ref a_P) B inlX0 hP 0 rfl rfl 1 rfl mfl_X0_45 rfl rfl dX0_carry_77 ?_
      refine uGet (ci := 4) (C := RX4) (T := TX4) (N := 10) (v := .ref a_P_cells) B inlX4 hP 1 rfl rfl 3 rfl mfl_X0_68 rfl rfl dX0_carry_80 ?_
      refine lv_iload_n hx hb dX0_carry_83 rfl (lv_at hl 3 rfl) ?_
      refine uIald (i := (nI x1)) (j := x1) B hP 2 rfl (nI_in (by omega) (by omega)) (nI_clamp (by omega)) dX0_carry_84 ?_
      obtain ⟨a11, ha11, ea11⟩ := uRnat r_P_cells x1 (by decide)
      simp only [Int32.reduceToInt] at ha11
      refine lv_fixi (y := (nI a11)) ea11 ?_
      refine uIald (i := (nI a11)) (j := a11) B hP 14 rfl (nI_in (by omega) (by omega)) (nI_clamp (by omega)) dX0_carry_85 ?_
      refine lv_pc (q := 86) rfl ?_
      refine lv_imul hx hb dX0_carry_86 ?_
      exact uRi (upd f_P_stores x0 (nI (a1 - a3)), upd f_C_came x1 ((f_C_came x1) + (nI a3)), upd f_C_lacks x1 (nI (a2 - a3)), f_C_firstFrom) B ⟨a3, (by rw [uNe (by omega) ea1, uNe (by omega) ea2]; omega), (by rw [uNe (by omega) ea1, uNe (by omega) ea2]; omega), (by rw [uNe (by omega) ea1]), (by rw [uNe (by omega) ea2]), (by rw [uwGd hs9 rfl ea11 (by omega)] <;> rfl)⟩ (uSub hP [0, 1, 2, 3, 4, 5, 6, 7, 8, 9, 10, 11, 12, 13, 14, 15, 16, 17, 18, 19] rfl) (hD.sub [0, 1, 2, 3, 4, 5, 6, 7, 8, 9, 10, 11, 12, 13, 14, 15, 16, 17, 18, 19] rfl rfl) hS dX0_carry_87
    · refine uAald (i := (nI x0)) (j := 7) B hP 7 rfl (nI_in (by omega) (by omega)) (by rw [nI_clamp (by omega)]; exact hs9) k_C_costs_7 dX0_carry_75 ?_
      refine lv_pc (q := 76) rfl ?_
      refine lv_aload_n hx hb dX0_carry_76 rfl (lv_at hl 1 rfl) ?_
      refine uGet (ci := 0) (C := RX0) (T := TX0) (N := 9) (v := .ref a_P) B inlX0 hP 0 rfl rfl 1 rfl mfl_X0_45 rfl rfl dX0_carry_77 ?_
      refine uGet (ci := 4) (C := RX4) (T := TX4) (N := 10) (v := .ref a_P_cells) B inlX4 hP 1 rfl rfl 3 rfl mfl_X0_68 rfl rfl dX0_carry_80 ?_
      refine lv_iload_n hx hb dX0_carry_83 rfl (lv_at hl 3 rfl) ?_
      refine uIald (i := (nI x1)) (j := x1) B hP 2 rfl (nI_in (by omega) (by omega)) (nI_clamp (by omega)) dX0_carry_84 ?_
      obtain ⟨a12, ha12, ea12⟩ := uRnat r_P_cells x1 (by decide)
      simp only [Int32.reduceToInt] at ha12
      refine lv_fixi (y := (nI a12)) ea12 ?_
      refine uIald (i := (nI a12)) (j := a12) B hP 15 rfl (nI_in (by omega) (by omega)) (nI_clamp (by omega)) dX0_carry_85 ?_
      refine lv_pc (q := 86) rfl ?_
      refine lv_imul hx hb dX0_carry_86 ?_
      exact uRi (upd f_P_stores x0 (nI (a1 - a3)), upd f_C_came x1 ((f_C_came x1) + (nI a3)), upd f_C_lacks x1 (nI (a2 - a3)), f_C_firstFrom) B ⟨a3, (by rw [uNe (by omega) ea1, uNe (by omega) ea2]; omega), (by rw [uNe (by omega) ea1, uNe (by omega) ea2]; omega), (by rw [uNe (by omega) ea1]), (by rw [uNe (by omega) ea2]), (by rw [uwGd hs9 rfl ea12 (by omega)] <;> rfl)⟩ (uSub hP [0, 1, 2, 3, 4, 5, 6, 7, 8, 9, 10, 11, 12, 13, 14, 15, 16, 17, 18, 19] rfl) (hD.sub [0, 1, 2, 3, 4, 5, 6, 7, 8, 9, 10, 11, 12, 13, 14, 15, 16, 17, 18, 19] rfl rfl) hS dX0_carry_87
    · refine uAald (i := (nI x0)) (j := 8) B hP 7 rfl (nI_in (by omega) (by omega)) (by rw [nI_clamp (by omega)]; exact hs9) k_C_costs_8 dX0_carry_75 ?_
      refine lv_pc (q := 76) rfl ?_
      refine lv_aload_n hx hb dX0_carry_76 rfl (lv_at hl 1 rfl) ?_
      refine uGet (ci := 0) (C := RX0) (T := TX0) (N := 9) (v := .ref a_P) B inlX0 hP 0 rfl rfl 1 rfl mfl_X0_45 rfl rfl dX0_carry_77 ?_
      refine uGet (ci := 4) (C := RX4) (T := TX4) (N := 10) (v := .ref a_P_cells) B inlX4 hP 1 rfl rfl 3 rfl mfl_X0_68 rfl rfl dX0_carry_80 ?_
      refine lv_iload_n hx hb dX0_carry_83 rfl (lv_at hl 3 rfl) ?_
      refine uIald (i := (nI x1)) (j := x1) B hP 2 rfl (nI_in (by omega) (by omega)) (nI_clamp (by omega)) dX0_carry_84 ?_
      obtain ⟨a13, ha13, ea13⟩ := uRnat r_P_cells x1 (by decide)
      simp only [Int32.reduceToInt] at ha13
      refine lv_fixi (y := (nI a13)) ea13 ?_
      refine uIald (i := (nI a13)) (j := a13) B hP 16 rfl (nI_in (by omega) (by omega)) (nI_clamp (by omega)) dX0_carry_85 ?_
      refine lv_pc (q := 86) rfl ?_
      refine lv_imul hx hb dX0_carry_86 ?_
      exact uRi (upd f_P_stores x0 (nI (a1 - a3)), upd f_C_came x1 ((f_C_came x1) + (nI a3)), upd f_C_lacks x1 (nI (a2 - a3)), f_C_firstFrom) B ⟨a3, (by rw [uNe (by omega) ea1, uNe (by omega) ea2]; omega), (by rw [uNe (by omega) ea1, uNe (by omega) ea2]; omega), (by rw [uNe (by omega) ea1]), (by rw [uNe (by omega) ea2]), (by rw [uwGd hs9 rfl ea13 (by omega)] <;> rfl)⟩ (uSub hP [0, 1, 2, 3, 4, 5, 6, 7, 8, 9, 10, 11, 12, 13, 14, 15, 16, 17, 18, 19] rfl) (hD.sub [0, 1, 2, 3, 4, 5, 6, 7, 8, 9, 10, 11, 12, 13, 14, 15, 16, 17, 18, 19] rfl rfl) hS dX0_carry_87
    · refine uAald (i := (nI x0)) (j := 9) B hP 7 rfl (nI_in (by omega) (by omega)) (by rw [nI_clamp (by omega)]; exact hs9) k_C_costs_9 dX0_carry_75 ?_
      refine lv_pc (q := 76) rfl ?_
      refine lv_aload_n hx hb dX0_carry_76 rfl (lv_at hl 1 rfl) ?_
      refine uGet (ci := 0) (C := RX0) (T := TX0) (N := 9) (v := .ref a_P) B inlX0 hP 0 rfl rfl 1 rfl mfl_X0_45 rfl rfl dX0_carry_77 ?_
      refine uGet (ci := 4) (C := RX4) (T := TX4) (N := 10) (v := .ref a_P_cells) B inlX4 hP 1 rfl rfl 3 rfl mfl_X0_68 rfl rfl dX0_carry_80 ?_
      refine lv_iload_n hx hb dX0_carry_83 rfl (lv_at hl 3 rfl) ?_
      refine uIald (i := (nI x1)) (j := x1) B hP 2 rfl (nI_in (by omega) (by omega)) (nI_clamp (by omega)) dX0_carry_84 ?_
      obtain ⟨a14, ha14, ea14⟩ := uRnat r_P_cells x1 (by decide)
      simp only [Int32.reduceToInt] at ha14
      refine lv_fixi (y := (nI a14)) ea14 ?_
      refine uIald (i := (nI a14)) (j := a14) B hP 17 rfl (nI_in (by omega) (by omega)) (nI_clamp (by omega)) dX0_carry_85 ?_
      refine lv_pc (q := 86) rfl ?_
      refine lv_imul hx hb dX0_carry_86 ?_
      exact uRi (upd f_P_stores x0 (nI (a1 - a3)), upd f_C_came x1 ((f_C_came x1) + (nI a3)), upd f_C_lacks x1 (nI (a2 - a3)), f_C_firstFrom) B ⟨a3, (by rw [uNe (by omega) ea1, uNe (by omega) ea2]; omega), (by rw [uNe (by omega) ea1, uNe (by omega) ea2]; omega), (by rw [uNe (by omega) ea1]), (by rw [uNe (by omega) ea2]), (by rw [uwGd hs9 rfl ea14 (by omega)] <;> rfl)⟩ (uSub hP [0, 1, 2, 3, 4, 5, 6, 7, 8, 9, 10, 11, 12, 13, 14, 15, 16, 17, 18, 19] rfl) (hD.sub [0, 1, 2, 3, 4, 5, 6, 7, 8, 9, 10, 11, 12, 13, 14, 15, 16, 17, 18, 19] rfl rfl) hS dX0_carry_87
    · refine uAald (i := (nI x0)) (j := 10) B hP 7 rfl (nI_in (by omega) (by omega)) (by rw [nI_clamp (by omega)]; exact hs9) k_C_costs_10 dX0_carry_75 ?_
      refine lv_pc (q := 76) rfl ?_
      refine lv_aload_n hx hb dX0_carry_76 rfl (lv_at hl 1 rfl) ?_
      refine uGet (ci := 0) (C := RX0) (T := TX0) (N := 9) (v := .ref a_P) B inlX0 hP 0 rfl rfl 1 rfl mfl_X0_45 rfl rfl dX0_carry_77 ?_
      refine uGet (ci := 4) (C := RX4) (T := TX4) (N := 10) (v := .ref a_P_cells) B inlX4 hP 1 rfl rfl 3 rfl mfl_X0_68 rfl rfl dX0_carry_80 ?_
      refine lv_iload_n hx hb dX0_carry_83 rfl (lv_at hl 3 rfl) ?_
      refine uIald (i := (nI x1)) (j := x1) B hP 2 rfl (nI_in (by omega) (by omega)) (nI_clamp (by omega)) dX0_carry_84 ?_
      obtain ⟨a15, ha15, ea15⟩ := uRnat r_P_cells x1 (by decide)
      simp only [Int32.reduceToInt] at ha15
      refine lv_fixi (y := (nI a15)) ea15 ?_
      refine uIald (i := (nI a15)) (j := a15) B hP 18 rfl (nI_in (by omega) (by omega)) (nI_clamp (by omega)) dX0_carry_85 ?_
      refine lv_pc (q := 86) rfl ?_
      refine lv_imul hx hb dX0_carry_86 ?_
      exact uRi (upd f_P_stores x0 (nI (a1 - a3)), upd f_C_came x1 ((f_C_came x1) + (nI a3)), upd f_C_lacks x1 (nI (a2 - a3)), f_C_firstFrom) B ⟨a3, (by rw [uNe (by omega) ea1, uNe (by omega) ea2]; omega), (by rw [uNe (by omega) ea1, uNe (by omega) ea2]; omega), (by rw [uNe (by omega) ea1]), (by rw [uNe (by omega) ea2]), (by rw [uwGd hs9 rfl ea15 (by omega)] <;> rfl)⟩ (uSub hP [0, 1, 2, 3, 4, 5, 6, 7, 8, 9, 10, 11, 12, 13, 14, 15, 16, 17, 18, 19] rfl) (hD.sub [0, 1, 2, 3, 4, 5, 6, 7, 8, 9, 10, 11, 12, 13, 14, 15, 16, 17, 18, 19] rfl rfl) hS dX0_carry_87
    refine uAald (i := (nI x0)) (j := 11) B hP 7 rfl (nI_in (by omega) (by omega)) (by rw [nI_clamp (by omega)]; exact hs9) k_C_costs_11 dX0_carry_75 ?_
    refine lv_pc (q := 76) rfl ?_
    refine lv_aload_n hx hb dX0_carry_76 rfl (lv_at hl 1 rfl) ?_
    refine uGet (ci := 0) (C := RX0) (T := TX0) (N := 9) (v := .ref a_P) B inlX0 hP 0 rfl rfl 1 rfl mfl_X0_45 rfl rfl dX0_carry_77 ?_
    refine uGet (ci := 4) (C := RX4) (T := TX4) (N := 10) (v := .ref a_P_cells) B inlX4 hP 1 rfl rfl 3 rfl mfl_X0_68 rfl rfl dX0_carry_80 ?_
    refine lv_iload_n hx hb dX0_carry_83 rfl (lv_at hl 3 rfl) ?_
    refine uIald (i := (nI x1)) (j := x1) B hP 2 rfl (nI_in (by omega) (by omega)) (nI_clamp (by omega)) dX0_carry_84 ?_
    obtain ⟨a16, ha16, ea16⟩ := uRnat r_P_cells x1 (by decide)
    simp only [Int32.reduceToInt] at ha16
    refine lv_fixi (y := (nI a16)) ea16 ?_
    refine uIald (i := (nI a16)) (j := a16) B hP 19 rfl (nI_in (by omega) (by omega)) (nI_clamp (by omega)) dX0_carry_85 ?_
    refine lv_pc (q := 86) rfl ?_
    refine lv_imul hx hb dX0_carry_86 ?_
    exact uRi (upd f_P_stores x0 (nI (a1 - a3)), upd f_C_came x1 ((f_C_came x1) + (nI a3)), upd f_C_lacks x1 (nI (a2 - a3)), f_C_firstFrom) B ⟨a3, (by rw [uNe (by omega) ea1, uNe (by omega) ea2]; omega), (by rw [uNe (by omega) ea1, uNe (by omega) ea2]; omega), (by rw [uNe (by omega) ea1]), (by rw [uNe (by omega) ea2]), (by rw [uwGd hs9 rfl ea16 (by omega)] <;> rfl)⟩ (uSub hP [0, 1, 2, 3, 4, 5, 6, 7, 8, 9, 10, 11, 12, 13, 14, 15, 16, 17, 18, 19] rfl) (hD.sub [0, 1, 2, 3, 4, 5, 6, 7, 8, 9, 10, 11, 12, 13, 14, 15, 16, 17, 18, 19] rfl rfl) hS dX0_carry_87
  refine lv_aload_n hx hb dX0_carry_62 rfl (lv_at hl 1 rfl) ?_
  refine uGet (ci := 0) (C := RX0) (T := TX0) (N := 9) (v := .ref a_C_firstFrom) B inlX0 hP 0 rfl rfl 7 rfl mfl_X0_34 rfl rfl dX0_carry_63 ?_
  refine lv_iload_n hx hb dX0_carry_66 rfl (lv_at hl 3 rfl) ?_
  refine lv_iload_n hx hb dX0_carry_67 rfl (lv_at hl 2 rfl) ?_
  refine uIast (i := (nI x1)) (j := x1) (ws' := [(a_C, .inr (0, [.ref a_T, .ref a_P, .ref a_C_costs, .ref a_C_measured, .ref a_C_statesThen, .ref a_C_came, .ref a_C_lacks, .ref a_C_firstFrom, .int (nI v_C_postsThen)])), (a_P, .inr (4, [.ref a_T, .ref a_P_xs, .ref a_P_ys, .ref a_P_cells, .ref a_P_lows, .ref a_P_highs, .ref a_P_states, .ref a_P_men, .ref a_P_stores, .int (nI v_P_size)])), (a_P_cells, .inl (K 0, 12, .inl f_P_cells)), (a_P_stores, .inl (K 0, 12, .inl (upd f_P_stores x0 (nI (a1 - a3))))), (a_C_came, .inl (K 0, 12, .inl (upd f_C_came x1 ((f_C_came x1) + (nI a3))))), (a_C_lacks, .inl (K 0, 12, .inl (upd f_C_lacks x1 (nI (a2 - a3))))), (a_C_firstFrom, .inl (K 0, 12, .inl (upd f_C_firstFrom x1 (nI x0)))), (a_C_costs, .inl (K 3, 12, .inr (.inr (.inr (.inr f_C_costs))))), (a_C_c0, .inl (K 0, 256, .inl f_C_c0)), (a_C_c1, .inl (K 0, 256, .inl f_C_c1)), (a_C_c2, .inl (K 0, 256, .inl f_C_c2)), (a_C_c3, .inl (K 0, 256, .inl f_C_c3)), (a_C_c4, .inl (K 0, 256, .inl f_C_c4)), (a_C_c5, .inl (K 0, 256, .inl f_C_c5)), (a_C_c6, .inl (K 0, 256, .inl f_C_c6)), (a_C_c7, .inl (K 0, 256, .inl f_C_c7)), (a_C_c8, .inl (K 0, 256, .inl f_C_c8)), (a_C_c9, .inl (K 0, 256, .inl f_C_c9)), (a_C_c10, .inl (K 0, 256, .inl f_C_c10)), (a_C_c11, .inl (K 0, 256, .inl f_C_c11))]) B hP hD hS 6 rfl (nI_in (by omega) (by omega)) (nI_clamp (by omega)) rfl dX0_carry_68 (fun H locs hP hD hS => ?_)
  refine lv_pc (q := 69) rfl ?_
  refine lv_iload_n hx hb dX0_carry_69 rfl (lv_at hl 0 rfl) ?_
  refine lv_aload_n hx hb dX0_carry_70 rfl (lv_at hl 1 rfl) ?_
  refine uGet (ci := 0) (C := RX0) (T := TX0) (N := 9) (v := .ref a_C_costs) B inlX0 hP 0 rfl rfl 2 rfl mfl_X0_15 rfl rfl dX0_carry_71 ?_
  refine lv_iload_n hx hb dX0_carry_74 rfl (lv_at hl 2 rfl) ?_
  have hs9 : x0 = 0 ∨ x0 = 1 ∨ x0 = 2 ∨ x0 = 3 ∨ x0 = 4 ∨ x0 = 5 ∨ x0 = 6 ∨ x0 = 7 ∨ x0 = 8 ∨ x0 = 9 ∨ x0 = 10 ∨ x0 = 11 := by omega
  rcases hs9 with hs9 | hs9 | hs9 | hs9 | hs9 | hs9 | hs9 | hs9 | hs9 | hs9 | hs9 | hs9
  · refine uAald (i := (nI x0)) (j := 0) B hP 7 rfl (nI_in (by omega) (by omega)) (by rw [nI_clamp (by omega)]; exact hs9) k_C_costs_0 dX0_carry_75 ?_
    refine lv_aload_n hx hb dX0_carry_76 rfl (lv_at hl 1 rfl) ?_
    refine lv_pc (q := 77) rfl ?_
    refine uGet (ci := 0) (C := RX0) (T := TX0) (N := 9) (v := .ref a_P) B inlX0 hP 0 rfl rfl 1 rfl mfl_X0_45 rfl rfl dX0_carry_77 ?_
    refine uGet (ci := 4) (C := RX4) (T := TX4) (N := 10) (v := .ref a_P_cells) B inlX4 hP 1 rfl rfl 3 rfl mfl_X0_68 rfl rfl dX0_carry_80 ?_
    refine lv_iload_n hx hb dX0_carry_83 rfl (lv_at hl 3 rfl) ?_
    refine uIald (i := (nI x1)) (j := x1) B hP 2 rfl (nI_in (by omega) (by omega)) (nI_clamp (by omega)) dX0_carry_84 ?_
    obtain ⟨a17, ha17, ea17⟩ := uRnat r_P_cells x1 (by decide)
    simp only [Int32.reduceToInt] at ha17
    refine lv_fixi (y := (nI a17)) ea17 ?_
    refine uIald (i := (nI a17)) (j := a17) B hP 8 rfl (nI_in (by omega) (by omega)) (nI_clamp (by omega)) dX0_carry_85 ?_
    refine lv_imul hx hb dX0_carry_86 ?_
    refine lv_pc (q := 87) rfl ?_
    exact uRi (upd f_P_stores x0 (nI (a1 - a3)), upd f_C_came x1 ((f_C_came x1) + (nI a3)), upd f_C_lacks x1 (nI (a2 - a3)), upd f_C_firstFrom x1 (nI x0)) B ⟨a3, (by rw [uNe (by omega) ea1, uNe (by omega) ea2]; omega), (by rw [uNe (by omega) ea1, uNe (by omega) ea2]; omega), (by rw [uNe (by omega) ea1]), (by rw [uNe (by omega) ea2]), (by rw [uwGd hs9 rfl ea17 (by omega)] <;> rfl)⟩ (uSub hP [0, 1, 2, 3, 4, 5, 6, 7, 8, 9, 10, 11, 12, 13, 14, 15, 16, 17, 18, 19] rfl) (hD.sub [0, 1, 2, 3, 4, 5, 6, 7, 8, 9, 10, 11, 12, 13, 14, 15, 16, 17, 18, 19] rfl rfl) hS dX0_carry_87
  · refine uAald (i := (nI x0)) (j := 1) B hP 7 rfl (nI_in (by omega) (by omega)) (by rw [nI_clamp (by omega)]; exact hs9) k_C_costs_1 dX0_carry_75 ?_
    refine lv_aload_n hx hb dX0_carry_76 rfl (lv_at hl 1 rfl) ?_
    refine lv_pc (q := 77) rfl ?_
    refine uGet (ci := 0) (C := RX0) (T := TX0) (N := 9) (v := .ref a_P) B inlX0 hP 0 rfl rfl 1 rfl mfl_X0_45 rfl rfl dX0_carry_77 ?_
    refine uGet (ci := 4) (C := RX4) (T := TX4) (N := 10) (v := .ref a_P_cells) B inlX4 hP 1 rfl rfl 3 rfl mfl_X0_68 rfl rfl dX0_carry_80 ?_
    refine lv_iload_n hx hb dX0_carry_83 rfl (lv_at hl 3 rfl) ?_
    refine uIald (i := (nI x1)) (j := x1) B hP 2 rfl (nI_in (by omega) (by omega)) (nI_clamp (by omega)) dX0_carry_84 ?_
    obtain ⟨a18, ha18, ea18⟩ := uRnat r_P_cells x1 (by decide)
    simp only [Int32.reduceToInt] at ha18
    refine lv_fixi (y := (nI a18)) ea18 ?_
    refine uIald (i := (nI a18)) (j := a18) B hP 9 rfl (nI_in (by omega) (by omega)) (nI_clamp (by omega)) dX0_carry_85 ?_
    refine lv_imul hx hb dX0_carry_86 ?_
    refine lv_pc (q := 87) rfl ?_
    exact uRi (upd f_P_stores x0 (nI (a1 - a3)), upd f_C_came x1 ((f_C_came x1) + (nI a3)), upd f_C_lacks x1 (nI (a2 - a3)), upd f_C_firstFrom x1 (nI x0)) B ⟨a3, (by rw [uNe (by omega) ea1, uNe (by omega) ea2]; omega), (by rw [uNe (by omega) ea1, uNe (by omega) ea2]; omega), (by rw [uNe (by omega) ea1]), (by rw [uNe (by omega) ea2]), (by rw [uwGd hs9 rfl ea18 (by omega)] <;> rfl)⟩ (uSub hP [0, 1, 2, 3, 4, 5, 6, 7, 8, 9, 10, 11, 12, 13, 14, 15, 16, 17, 18, 19] rfl) (hD.sub [0, 1, 2, 3, 4, 5, 6, 7, 8, 9, 10, 11, 12, 13, 14, 15, 16, 17, 18, 19] rfl rfl) hS dX0_carry_87
  · refine uAald (i := (nI x0)) (j := 2) B hP 7 rfl (nI_in (by omega) (by omega)) (by rw [nI_clamp (by omega)]; exact hs9) k_C_costs_2 dX0_carry_75 ?_
    refine lv_aload_n hx hb dX0_carry_76 rfl (lv_at hl 1 rfl) ?_
    refine lv_pc (q := 77) rfl ?_
    refine uGet (ci := 0) (C := RX0) (T := TX0) (N := 9) (v := .ref a_P) B inlX0 hP 0 rfl rfl 1 rfl mfl_X0_45 rfl rfl dX0_carry_77 ?_
    refine uGet (ci := 4) (C := RX4) (T := TX4) (N := 10) (v := .ref a_P_cells) B inlX4 hP 1 rfl rfl 3 rfl mfl_X0_68 rfl rfl dX0_carry_80 ?_
    refine lv_iload_n hx hb dX0_carry_83 rfl (lv_at hl 3 rfl) ?_
    refine uIald (i := (nI x1)) (j := x1) B hP 2 rfl (nI_in (by omega) (by omega)) (nI_clamp (by omega)) dX0_carry_84 ?_
    obtain ⟨a19, ha19, ea19⟩ := uRnat r_P_cells x1 (by decide)
    simp only [Int32.reduceToInt] at ha19
    refine lv_fixi (y := (nI a19)) ea19 ?_
    refine uIald (i := (nI a19)) (j := a19) B hP 10 rfl (nI_in (by omega) (by omega)) (nI_clamp (by omega)) dX0_carry_85 ?_
    refine lv_imul hx hb dX0_carry_86 ?_
    refine lv_pc (q := 87) rfl ?_
    exact uRi (upd f_P_stores x0 (nI (a1 - a3)), upd f_C_came x1 ((f_C_came x1) + (nI a3)), upd f_C_lacks x1 (nI (a2 - a3)), upd f_C_firstFrom x1 (nI x0)) B ⟨a3, (by rw [uNe (by omega) ea1, uNe (by omega) ea2]; omega), (by rw [uNe (by omega) ea1, uNe (by omega) ea2]; omega), (by rw [uNe (by omega) ea1]), (by rw [uNe (by omega) ea2]), (by rw [uwGd hs9 rfl ea19 (by omega)] <;> rfl)⟩ (uSub hP [0, 1, 2, 3, 4, 5, 6, 7, 8, 9, 10, 11, 12, 13, 14, 15, 16, 17, 18, 19] rfl) (hD.sub [0, 1, 2, 3, 4, 5, 6, 7, 8, 9, 10, 11, 12, 13, 14, 15, 16, 17, 18, 19] rfl rfl) hS dX0_carry_87
  · refine uAald (i := (nI x0)) (j := 3) B hP 7 rfl (nI_in (by omega) (by omega)) (by rw [nI_clamp (by omega)]; exact hs9) k_C_costs_3 dX0_carry_75 ?_
    refine lv_aload_n hx hb dX0_carry_76 rfl (lv_at hl 1 rfl) ?_
    refine lv_pc (q := 77) rfl ?_
    refine uGet (ci := 0) (C := RX0) (T := TX0) (N := 9) (v := .ref a_P) B inlX0 hP 0 rfl rfl 1 rfl mfl_X0_45 rfl rfl dX0_carry_77 ?_
    refine uGet (ci := 4) (C := RX4) (T := TX4) (N := 10) (v := .ref a_P_cells) B inlX4 hP 1 rfl rfl 3 rfl mfl_X0_68 rfl rfl dX0_carry_80 ?_
    refine lv_iload_n hx hb dX0_carry_83 rfl (lv_at hl 3 rfl) ?_
    refine uIald (i := (nI x1)) (j := x1) B hP 2 rfl (nI_in (by omega) (by omega)) (nI_clamp (by omega)) dX0_carry_84 ?_
    obtain ⟨a20, ha20, ea20⟩ := uRnat r_P_cells x1 (by decide)
    simp only [Int32.reduceToInt] at ha20
    refine lv_fixi (y := (nI a20)) ea20 ?_
    refine uIald (i := (nI a20)) (j := a20) B hP 11 rfl (nI_in (by omega) (by omega)) (nI_clamp (by omega)) dX0_carry_85 ?_
    refine lv_imul hx hb dX0_carry_86 ?_
    refine lv_pc (q := 87) rfl ?_
    exact uRi (upd f_P_stores x0 (nI (a1 - a3)), upd f_C_came x1 ((f_C_came x1) + (nI a3)), upd f_C_lacks x1 (nI (a2 - a3)), upd f_C_firstFrom x1 (nI x0)) B ⟨a3, (by rw [uNe (by omega) ea1, uNe (by omega) ea2]; omega), (by rw [uNe (by omega) ea1, uNe (by omega) ea2]; omega), (by rw [uNe (by omega) ea1]), (by rw [uNe (by omega) ea2]), (by rw [uwGd hs9 rfl ea20 (by omega)] <;> rfl)⟩ (uSub hP [0, 1, 2, 3, 4, 5, 6, 7, 8, 9, 10, 11, 12, 13, 14, 15, 16, 17, 18, 19] rfl) (hD.sub [0, 1, 2, 3, 4, 5, 6, 7, 8, 9, 10, 11, 12, 13, 14, 15, 16, 17, 18, 19] rfl rfl) hS dX0_carry_87
  · refine uAald (i := (nI x0)) (j := 4) B hP 7 rfl (nI_in (by omega) (by omega)) (by rw [nI_clamp (by omega)]; exact hs9) k_C_costs_4 dX0_carry_75 ?_
    refine lv_aload_n hx hb dX0_carry_76 rfl (lv_at hl 1 rfl) ?_
    refine lv_pc (q := 77) rfl ?_
    refine uGet (ci := 0) (C := RX0) (T := TX0) (N := 9) (v := .ref a_P) B inlX0 hP 0 rfl rfl 1 rfl mfl_X0_45 rfl rfl dX0_carry_77 ?_
    refine uGet (ci := 4) (C := RX4) (T := TX4) (N := 10) (v := .ref a_P_cells) B inlX4 hP 1 rfl rfl 3 rfl mfl_X0_68 rfl rfl dX0_carry_80 ?_
    refine lv_iload_n hx hb dX0_carry_83 rfl (lv_at hl 3 rfl) ?_
    refine uIald (i := (nI x1)) (j := x1) B hP 2 rfl (nI_in (by omega) (by omega)) (nI_clamp (by omega)) dX0_carry_84 ?_
    obtain ⟨a21, ha21, ea21⟩ := uRnat r_P_cells x1 (by decide)
    simp only [Int32.reduceToInt] at ha21
    refine lv_fixi (y := (nI a21)) ea21 ?_
    refine uIald (i := (nI a21)) (j := a21) B hP 12 rfl (nI_in (by omega) (by omega)) (nI_clamp (by omega)) dX0_carry_85 ?_
    refine lv_imul hx hb dX0_carry_86 ?_
    refine lv_pc (q := 87) rfl ?_
    exact uRi (upd f_P_stores x0 (nI (a1 - a3)), upd f_C_came x1 ((f_C_came x1) + (nI a3)), upd f_C_lacks x1 (nI (a2 - a3)), upd f_C_firstFrom x1 (nI x0)) B ⟨a3, (by rw [uNe (by omega) ea1, uNe (by omega) ea2]; omega), (by rw [uNe (by omega) ea1, uNe (by omega) ea2]; omega), (by rw [uNe (by omega) ea1]), (by rw [uNe (by omega) ea2]), (by rw [uwGd hs9 rfl ea21 (by omega)] <;> rfl)⟩ (uSub hP [0, 1, 2, 3, 4, 5, 6, 7, 8, 9, 10, 11, 12, 13, 14, 15, 16, 17, 18, 19] rfl) (hD.sub [0, 1, 2, 3, 4, 5, 6, 7, 8, 9, 10, 11, 12, 13, 14, 15, 16, 17, 18, 19] rfl rfl) hS dX0_carry_87
  · refine uAald (i := (nI x0)) (j := 5) B hP 7 rfl (nI_in (by omega) (by omega)) (by rw [nI_clamp (by omega)]; exact hs9) k_C_costs_5 dX0_carry_75 ?_
    refine lv_aload_n hx hb dX0_carry_76 rfl (lv_at hl 1 rfl) ?_
    refine lv_pc (q := 77) rfl ?_
    refine uGet (ci := 0) (C := RX0) (T := TX0) (N := 9) (v := .ref a_P) B inlX0 hP 0 rfl rfl 1 rfl mfl_X0_45 rfl rfl dX0_carry_77 ?_
    refine uGet (ci := 4) (C := RX4) (T := TX4) (N := 10) (v := .ref a_P_cells) B inlX4 hP 1 rfl rfl 3 rfl mfl_X0_68 rfl rfl dX0_carry_80 ?_
    refine lv_iload_n hx hb dX0_carry_83 rfl (lv_at hl 3 rfl) ?_
    refine uIald (i := (nI x1)) (j := x1) B hP 2 rfl (nI_in (by omega) (by omega)) (nI_clamp (by omega)) dX0_carry_84 ?_
    obtain ⟨a22, ha22, ea22⟩ := uRnat r_P_cells x1 (by decide)
    simp only [Int32.reduceToInt] at ha22
    refine lv_fixi (y := (nI a22)) ea22 ?_
    refine uIald (i := (nI a22)) (j := a22) B hP 13 rfl (nI_in (by omega) (by omega)) (nI_clamp (by omega)) dX0_carry_85 ?_
    refine lv_imul hx hb dX0_carry_86 ?_
    refine lv_pc (q := 87) rfl ?_
    exact uRi (upd f_P_stores x0 (nI (a1 - a3)), upd f_C_came x1 ((f_C_came x1) + (nI a3)), upd f_C_lacks x1 (nI (a2 - a3)), upd f_C_firstFrom x1 (nI x0)) B ⟨a3, (by rw [uNe (by omega) ea1, uNe (by omega) ea2]; omega), (by rw [uNe (by omega) ea1, uNe (by omega) ea2]; omega), (by rw [uNe (by omega) ea1]), (by rw [uNe (by omega) ea2]), (by rw [uwGd hs9 rfl ea22 (by omega)] <;> rfl)⟩ (uSub hP [0, 1, 2, 3, 4, 5, 6, 7, 8, 9, 10, 11, 12, 13, 14, 15, 16, 17, 18, 19] rfl) (hD.sub [0, 1, 2, 3, 4, 5, 6, 7, 8, 9, 10, 11, 12, 13, 14, 15, 16, 17, 18, 19] rfl rfl) hS dX0_carry_87
  · refine uAald (i := (nI x0)) (j := 6) B hP 7 rfl (nI_in (by omega) (by omega)) (by rw [nI_clamp (by omega)]; exact hs9) k_C_costs_6 dX0_carry_75 ?_
    refine lv_aload_n hx hb dX0_carry_76 rfl (lv_at hl 1 rfl) ?_
    refine lv_pc (q := 77) rfl ?_
    refine uGet (ci := 0) (C := RX0) (T := TX0) (N := 9) (v := .ref a_P) B inlX0 hP 0 rfl rfl 1 rfl mfl_X0_45 rfl rfl dX0_carry_77 ?_
    refine uGet (ci := 4) (C := RX4) (T := TX4) (N := 10) (v := .ref a_P_cells) B inlX4 hP 1 rfl rfl 3 rfl mfl_X0_68 rfl rfl dX0_carry_80 ?_
    refine lv_iload_n hx hb dX0_carry_83 rfl (lv_at hl 3 rfl) ?_
    refine uIald (i := (nI x1)) (j := x1) B hP 2 rfl (nI_in (by omega) (by omega)) (nI_clamp (by omega)) dX0_carry_84 ?_
    obtain ⟨a23, ha23, ea23⟩ := uRnat r_P_cells x1 (by decide)
    simp only [Int32.reduceToInt] at ha23
    refine lv_fixi (y := (nI a23)) ea23 ?_
    refine uIald (i := (nI a23)) (j := a23) B hP 14 rfl (nI_in (by omega) (by omega)) (nI_clamp (by omega)) dX0_carry_85 ?_
    refine lv_imul hx hb dX0_carry_86 ?_
    refine lv_pc (q := 87) rfl ?_
    exact uRi (upd f_P_stores x0 (nI (a1 - a3)), upd f_C_came x1 ((f_C_came x1) + (nI a3)), upd f_C_lacks x1 (nI (a2 - a3)), upd f_C_firstFrom x1 (nI x0)) B ⟨a3, (by rw [uNe (by omega) ea1, uNe (by omega) ea2]; omega), (by rw [uNe (by omega) ea1, uNe (by omega) ea2]; omega), (by rw [uNe (by omega) ea1]), (by rw [uNe (by omega) ea2]), (by rw [uwGd hs9 rfl ea23 (by omega)] <;> rfl)⟩ (uSub hP [0, 1, 2, 3, 4, 5, 6, 7, 8, 9, 10, 11, 12, 13, 14, 15, 16, 17, 18, 19] rfl) (hD.sub [0, 1, 2, 3, 4, 5, 6, 7, 8, 9, 10, 11, 12, 13, 14, 15, 16, 17, 18, 19] rfl rfl) hS dX0_carry_87
  · refine uAald (i := (nI x0)) (j := 7) B hP 7 rfl (nI_in (by omega) (by omega)) (by rw [nI_clamp (by omega)]; exact hs9) k_C_costs_7 dX0_carry_75 ?_
    refine lv_aload_n hx hb dX0_carry_76 rfl (lv_at hl 1 rfl) ?_
    refine lv_pc (q := 77) rfl ?_
    refine uGet (ci := 0) (C := RX0) (T := TX0) (N := 9) (v := .ref a_P) B inlX0 hP 0 rfl rfl 1 rfl mfl_X0_45 rfl rfl dX0_carry_77 ?_
    refine uGet (ci := 4) (C := RX4) (T := TX4) (N := 10) (v := .ref a_P_cells) B inlX4 hP 1 rfl rfl 3 rfl mfl_X0_68 rfl rfl dX0_carry_80 ?_
    refine lv_iload_n hx hb dX0_carry_83 rfl (lv_at hl 3 rfl) ?_
    refine uIald (i := (nI x1)) (j := x1) B hP 2 rfl (nI_in (by omega) (by omega)) (nI_clamp (by omega)) dX0_carry_84 ?_
    obtain ⟨a24, ha24, ea24⟩ := uRnat r_P_cells x1 (by decide)
    simp only [Int32.reduceToInt] at ha24
    refine lv_fixi (y := (nI a24)) ea24 ?_
    refine uIald (i := (nI a24)) (j := a24) B hP 15 rfl (nI_in (by omega) (by omega)) (nI_clamp (by omega)) dX0_carry_85 ?_
    refine lv_imul hx hb dX0_carry_86 ?_
    refine lv_pc (q := 87) rfl ?_
    exact uRi (upd f_P_stores x0 (nI (a1 - a3)), upd f_C_came x1 ((f_C_came x1) + (nI a3)), upd f_C_lacks x1 (nI (a2 - a3)), upd f_C_firstFrom x1 (nI x0)) B ⟨a3, (by rw [uNe (by omega) ea1, uNe (by omega) ea2]; omega), (by rw [uNe (by omega) ea1, uNe (by omega) ea2]; omega), (by rw [uNe (by omega) ea1]), (by rw [uNe (by omega) ea2]), (by rw [uwGd hs9 rfl ea24 (by omega)] <;> rfl)⟩ (uSub hP [0, 1, 2, 3, 4, 5, 6, 7, 8, 9, 10, 11, 12, 13, 14, 15, 16, 17, 18, 19] rfl) (hD.sub [0, 1, 2, 3, 4, 5, 6, 7, 8, 9, 10, 11, 12, 13, 14, 15, 16, 17, 18, 19] rfl rfl) hS dX0_carry_87
  · refine uAald (i := (nI x0)) (j := 8) B hP 7 rfl (nI_in (by omega) (by omega)) (by rw [nI_clamp (by omega)]; exact hs9) k_C_costs_8 dX0_carry_75 ?_
    refine lv_aload_n hx hb dX0_carry_76 rfl (lv_at hl 1 rfl) ?_
    refine lv_pc (q := 77) rfl ?_
    refine uGet (ci := 0) (C := RX0) (T := TX0) (N := 9) (v := .ref a_P) B inlX0 hP 0 rfl rfl 1 rfl mfl_X0_45 rfl rfl dX0_carry_77 ?_
    refine uGet (ci := 4) (C := RX4) (T := TX4) (N := 10) (v := .ref a_P_cells) B inlX4 hP 1 rfl rfl 3 rfl mfl_X0_68 rfl rfl dX0_carry_80 ?_
    refine lv_iload_n hx hb dX0_carry_83 rfl (lv_at hl 3 rfl) ?_
    refine uIald (i := (nI x1)) (j := x1) B hP 2 rfl (nI_in (by omega) (by omega)) (nI_clamp (by omega)) dX0_carry_84 ?_
    obtain ⟨a25, ha25, ea25⟩ := uRnat r_P_cells x1 (by decide)
    simp only [Int32.reduceToInt] at ha25
    refine lv_fixi (y := (nI a25)) ea25 ?_
    refine uIald (i := (nI a25)) (j := a25) B hP 16 rfl (nI_in (by omega) (by omega)) (nI_clamp (by omega)) dX0_carry_85 ?_
    refine lv_imul hx hb dX0_carry_86 ?_
    refine lv_pc (q := 87) rfl ?_
    exact uRi (upd f_P_stores x0 (nI (a1 - a3)), upd f_C_came x1 ((f_C_came x1) + (nI a3)), upd f_C_lacks x1 (nI (a2 - a3)), upd f_C_firstFrom x1 (nI x0)) B ⟨a3, (by rw [uNe (by omega) ea1, uNe (by omega) ea2]; omega), (by rw [uNe (by omega) ea1, uNe (by omega) ea2]; omega), (by rw [uNe (by omega) ea1]), (by rw [uNe (by omega) ea2]), (by rw [uwGd hs9 rfl ea25 (by omega)] <;> rfl)⟩ (uSub hP [0, 1, 2, 3, 4, 5, 6, 7, 8, 9, 10, 11, 12, 13, 14, 15, 16, 17, 18, 19] rfl) (hD.sub [0, 1, 2, 3, 4, 5, 6, 7, 8, 9, 10, 11, 12, 13, 14, 15, 16, 17, 18, 19] rfl rfl) hS dX0_carry_87
  · refine uAald (i := (nI x0)) (j := 9) B hP 7 rfl (nI_in (by omega) (by omega)) (by rw [nI_clamp (by omega)]; exact hs9) k_C_costs_9 dX0_carry_75 ?_
    refine lv_aload_n hx hb dX0_carry_76 rfl (lv_at hl 1 rfl) ?_
    refine lv_pc (q := 77) rfl ?_
    refine uGet (ci := 0) (C := RX0) (T := TX0) (N := 9) (v := .ref a_P) B inlX0 hP 0 rfl rfl 1 rfl mfl_X0_45 rfl rfl dX0_carry_77 ?_
    refine uGet (ci := 4) (C := RX4) (T := TX4) (N := 10) (v := .ref a_P_cells) B inlX4 hP 1 rfl rfl 3 rfl mfl_X0_68 rfl rfl dX0_carry_80 ?_
    refine lv_iload_n hx hb dX0_carry_83 rfl (lv_at hl 3 rfl) ?_
    refine uIald (i := (nI x1)) (j := x1) B hP 2 rfl (nI_in (by omega) (by omega)) (nI_clamp (by omega)) dX0_carry_84 ?_
    obtain ⟨a26, ha26, ea26⟩ := uRnat r_P_cells x1 (by decide)
    simp only [Int32.reduceToInt] at ha26
    refine lv_fixi (y := (nI a26)) ea26 ?_
    refine uIald (i := (nI a26)) (j := a26) B hP 17 rfl (nI_in (by omega) (by omega)) (nI_clamp (by omega)) dX0_carry_85 ?_
    refine lv_imul hx hb dX0_carry_86 ?_
    refine lv_pc (q := 87) rfl ?_
    exact uRi (upd f_P_stores x0 (nI (a1 - a3)), upd f_C_came x1 ((f_C_came x1) + (nI a3)), upd f_C_lacks x1 (nI (a2 - a3)), upd f_C_firstFrom x1 (nI x0)) B ⟨a3, (by rw [uNe (by omega) ea1, uNe (by omega) ea2]; omega), (by rw [uNe (by omega) ea1, uNe (by omega) ea2]; omega), (by rw [uNe (by omega) ea1]), (by rw [uNe (by omega) ea2]), (by rw [uwGd hs9 rfl ea26 (by omega)] <;> rfl)⟩ (uSub hP [0, 1, 2, 3, 4, 5, 6, 7, 8, 9, 10, 11, 12, 13, 14, 15, 16, 17, 18, 19] rfl) (hD.sub [0, 1, 2, 3, 4, 5, 6, 7, 8, 9, 10, 11, 12, 13, 14, 15, 16, 17, 18, 19] rfl rfl) hS dX0_carry_87
  · refine uAald (i := (nI x0)) (j := 10) B hP 7 rfl (nI_in (by omega) (by omega)) (by rw [nI_clamp (by omega)]; exact hs9) k_C_costs_10 dX0_carry_75 ?_
    refine lv_aload_n hx hb dX0_carry_76 rfl (lv_at hl 1 rfl) ?_
    refine lv_pc (q := 77) rfl ?_
    refine uGet (ci := 0) (C := RX0) (T := TX0) (N := 9) (v := .ref a_P) B inlX0 hP 0 rfl rfl 1 rfl mfl_X0_45 rfl rfl dX0_carry_77 ?_
    refine uGet (ci := 4) (C := RX4) (T := TX4) (N := 10) (v := .ref a_P_cells) B inlX4 hP 1 rfl rfl 3 rfl mfl_X0_68 rfl rfl dX0_carry_80 ?_
    refine lv_iload_n hx hb dX0_carry_83 rfl (lv_at hl 3 rfl) ?_
    refine uIald (i := (nI x1)) (j := x1) B hP 2 rfl (nI_in (by omega) (by omega)) (nI_clamp (by omega)) dX0_carry_84 ?_
    obtain ⟨a27, ha27, ea27⟩ := uRnat r_P_cells x1 (by decide)
    simp only [Int32.reduceToInt] at ha27
    refine lv_fixi (y := (nI a27)) ea27 ?_
    refine uIald (i := (nI a27)) (j := a27) B hP 18 rfl (nI_in (by omega) (by omega)) (nI_clamp (by omega)) dX0_carry_85 ?_
    refine lv_imul hx hb dX0_carry_86 ?_
    refine lv_pc (q := 87) rfl ?_
    exact uRi (upd f_P_stores x0 (nI (a1 - a3)), upd f_C_came x1 ((f_C_came x1) + (nI a3)), upd f_C_lacks x1 (nI (a2 - a3)), upd f_C_firstFrom x1 (nI x0)) B ⟨a3, (by rw [uNe (by omega) ea1, uNe (by omega) ea2]; omega), (by rw [uNe (by omega) ea1, uNe (by omega) ea2]; omega), (by rw [uNe (by omega) ea1]), (by rw [uNe (by omega) ea2]), (by rw [uwGd hs9 rfl ea27 (by omega)] <;> rfl)⟩ (uSub hP [0, 1, 2, 3, 4, 5, 6, 7, 8, 9, 10, 11, 12, 13, 14, 15, 16, 17, 18, 19] rfl) (hD.sub [0, 1, 2, 3, 4, 5, 6, 7, 8, 9, 10, 11, 12, 13, 14, 15, 16, 17, 18, 19] rfl rfl) hS dX0_carry_87
  refine uAald (i := (nI x0)) (j := 11) B hP 7 rfl (nI_in (by omega) (by omega)) (by rw [nI_clamp (by omega)]; exact hs9) k_C_costs_11 dX0_carry_75 ?_
  refine lv_aload_n hx hb dX0_carry_76 rfl (lv_at hl 1 rfl) ?_
  refine lv_pc (q := 77) rfl ?_
  refine uGet (ci := 0) (C := RX0) (T := TX0) (N := 9) (v := .ref a_P) B inlX0 hP 0 rfl rfl 1 rfl mfl_X0_45 rfl rfl dX0_carry_77 ?_
  refine uGet (ci := 4) (C := RX4) (T := TX4) (N := 10) (v := .ref a_P_cells) B inlX4 hP 1 rfl rfl 3 rfl mfl_X0_68 rfl rfl dX0_carry_80 ?_
  refine lv_iload_n hx hb dX0_carry_83 rfl (lv_at hl 3 rfl) ?_
  refine uIald (i := (nI x1)) (j := x1) B hP 2 rfl (nI_in (by omega) (by omega)) (nI_clamp (by omega)) dX0_carry_84 ?_
  obtain ⟨a28, ha28, ea28⟩ := uRnat r_P_cells x1 (by decide)
  simp only [Int32.reduceToInt] at ha28
  refine lv_fixi (y := (nI a28)) ea28 ?_
  refine uIald (i := (nI a28)) (j := a28) B hP 19 rfl (nI_in (by omega) (by omega)) (nI_clamp (by omega)) dX0_carry_85 ?_
  refine lv_imul hx hb dX0_carry_86 ?_
  refine lv_pc (q := 87) rfl ?_
  exact uRi (upd f_P_stores x0 (nI (a1 - a3)), upd f_C_came x1 ((f_C_came x1) + (nI a3)), upd f_C_lacks x1 (nI (a2 - a3)), upd f_C_firstFrom x1 (nI x0)) B ⟨a3, (by rw [uNe (by omega) ea1, uNe (by omega) ea2]; omega), (by rw [uNe (by omega) ea1, uNe (by omega) ea2]; omega), (by rw [uNe (by omega) ea1]), (by rw [uNe (by omega) ea2]), (by rw [uwGd hs9 rfl ea28 (by omega)] <;> rfl)⟩ (uSub hP [0, 1, 2, 3, 4, 5, 6, 7, 8, 9, 10, 11, 12, 13, 14, 15, 16, 17, 18, 19] rfl) (hD.sub [0, 1, 2, 3, 4, 5, 6, 7, 8, 9, 10, 11, 12, 13, 14, 15, 16, 17, 18, 19] rfl rfl) hS dX0_carry_87
def qwX0_carryAll_vc (a_C : Nat) (v_C_postsThen : Nat) (a_P : Nat) (v_P_size : Nat) (a_P_cells : Nat) (f_P_cells : Nat → Int32) (a_P_states : Nat) (f_P_states : Nat → Int32) (a_P_men : Nat) (f_P_men : Nat → Int32) (a_P_stores : Nat) (f_P_stores : Nat → Int32) (a_C_statesThen : Nat) (f_C_statesThen : Nat → Int32) (a_C_came : Nat) (f_C_came : Nat → Int32) (a_C_lacks : Nat) (f_C_lacks : Nat → Int32) (a_C_firstFrom : Nat) (f_C_firstFrom : Nat → Int32) (a_C_costs : Nat) (f_C_costs : Nat → Option Nat) (a_C_c0 : Nat) (f_C_c0 : Nat → Int32) (a_C_c1 : Nat) (f_C_c1 : Nat → Int32) (a_C_c2 : Nat) (f_C_c2 : Nat → Int32) (a_C_c3 : Nat) (f_C_c3 : Nat → Int32) (a_C_c4 : Nat) (f_C_c4 : Nat → Int32) (a_C_c5 : Nat) (f_C_c5 : Nat → Int32) (a_C_c6 : Nat) (f_C_c6 : Nat → Int32) (a_C_c7 : Nat) (f_C_c7 : Nat → Int32) (a_C_c8 : Nat) (f_C_c8 : Nat → Int32) (a_C_c9 : Nat) (f_C_c9 : Nat → Int32) (a_C_c10 : Nat) (f_C_c10 : Nat → Int32) (a_C_c11 : Nat) (f_C_c11 : Nat → Int32) (a_T : Nat) (a_C_measured : Nat) (a_P_xs : Nat) (a_P_ys : Nat) (a_P_lows : Nat) (a_P_highs : Nat) (x0 : Nat) : Int32 → (Nat × (Nat → Int32) × (Nat → Int32) × (Nat → Int32) × (Nat → Int32) × (Nat → Int32)) → Prop := (fun (r : Int32) (u : Nat × (Nat → Int32) × (Nat → Int32) × (Nat → Int32) × (Nat → Int32) × (Nat → Int32)) => (∃ lY, uwLk0 f_P_states f_P_men x0 v_P_size lY ∧ uwEn (fun pY => f_P_states pY = 0) v_P_size (fun aY bY => ([f_C_c0, f_C_c1, f_C_c2, f_C_c3, f_C_c4, f_C_c5, f_C_c6, f_C_c7, f_C_c8, f_C_c9, f_C_c10, f_C_c11] : List (Nat → Int32)).getD aY (fun _ => 0) (uN (f_P_cells bY))) f_P_stores lY 0 u.2.1 u.2.2.2.2.1 r) ∧ (u.1 ≤ 12))
def vwX0_carryAll_vc (K : Nat → ClassId) (a_C : Nat) (v_C_postsThen : Nat) (a_P : Nat) (v_P_size : Nat) (a_P_cells : Nat) (f_P_cells : Nat → Int32) (a_P_states : Nat) (f_P_states : Nat → Int32) (a_P_men : Nat) (f_P_men : Nat → Int32) (a_P_stores : Nat) (f_P_stores : Nat → Int32) (a_C_statesThen : Nat) (f_C_statesThen : Nat → Int32) (a_C_came : Nat) (f_C_came : Nat → Int32) (a_C_lacks : Nat) (f_C_lacks : Nat → Int32) (a_C_firstFrom : Nat) (f_C_firstFrom : Nat → Int32) (a_C_costs : Nat) (f_C_costs : Nat → Option Nat) (a_C_c0 : Nat) (f_C_c0 : Nat → Int32) (a_C_c1 : Nat) (f_C_c1 : Nat → Int32) (a_C_c2 : Nat) (f_C_c2 : Nat → Int32) (a_C_c3 : Nat) (f_C_c3 : Nat → Int32) (a_C_c4 : Nat) (f_C_c4 : Nat → Int32) (a_C_c5 : Nat) (f_C_c5 : Nat → Int32) (a_C_c6 : Nat) (f_C_c6 : Nat → Int32) (a_C_c7 : Nat) (f_C_c7 : Nat → Int32) (a_C_c8 : Nat) (f_C_c8 : Nat → Int32) (a_C_c9 : Nat) (f_C_c9 : Nat → Int32) (a_C_c10 : Nat) (f_C_c10 : Nat → Int32) (a_C_c11 : Nat) (f_C_c11 : Nat → Int32) (a_T : Nat) (a_C_measured : Nat) (a_P_xs : Nat) (a_P_ys : Nat) (a_P_lows : Nat) (a_P_highs : Nat) (x0 : Nat) : (Nat × (Nat → Int32) × (Nat → Int32) × (Nat → Int32) × (Nat → Int32) × (Nat → Int32)) → va_W := (fun (u : Nat × (Nat → Int32) × (Nat → Int32) × (Nat → Int32) × (Nat → Int32) × (Nat → Int32)) => [(a_C, .inr (0, [.ref a_T, .ref a_P, .ref a_C_costs, .ref a_C_measured, .ref a_C_statesThen, .ref a_C_came, .ref a_C_lacks, .ref a_C_firstFrom, .int (nI ((u.1)))])), (a_P, .inr (4, [.ref a_T, .ref a_P_xs, .ref a_P_ys, .ref a_P_cells, .ref a_P_lows, .ref a_P_highs, .ref a_P_states, .ref a_P_men, .ref a_P_stores, .int (nI v_P_size)])), (a_P_cells, .inl (K 0, 12, .inl f_P_cells)), (a_P_states, .inl (K 0, 12, .inl f_P_states)), (a_P_men, .inl (K 0, 12, .inl f_P_men)), (a_P_stores, .inl (K 0, 12, .inl (u.2.1))), (a_C_statesThen, .inl (K 0, 12, .inl (u.2.2.1))), (a_C_came, .inl (K 0, 12, .inl (u.2.2.2.1))), (a_C_lacks, .inl (K 0, 12, .inl (u.2.2.2.2.1))), (a_C_firstFrom, .inl (K 0, 12, .inl (u.2.2.2.2.2))), (a_C_costs, .inl (K 3, 12, .inr (.inr (.inr (.inr f_C_costs))))), (a_C_c0, .inl (K 0, 256, .inl f_C_c0)), (a_C_c1, .inl (K 0, 256, .inl f_C_c1)), (a_C_c2, .inl (K 0, 256, .inl f_C_c2)), (a_C_c3, .inl (K 0, 256, .inl f_C_c3)), (a_C_c4, .inl (K 0, 256, .inl f_C_c4)), (a_C_c5, .inl (K 0, 256, .inl f_C_c5)), (a_C_c6, .inl (K 0, 256, .inl f_C_c6)), (a_C_c7, .inl (K 0, 256, .inl f_C_c7)), (a_C_c8, .inl (K 0, 256, .inl f_C_c8)), (a_C_c9, .inl (K 0, 256, .inl f_C_c9)), (a_C_c10, .inl (K 0, 256, .inl f_C_c10)), (a_C_c11, .inl (K 0, 256, .inl f_C_c11))])
set_option maxHeartbeats 4000000 in
set_option maxRecDepth 100000 in
theorem wX0_carryAll_vc (l : Launch) (D : va_G) (K : Nat → ClassId) (sz : Nat) (a_C : Nat) (v_C_postsThen : Nat) (a_P : Nat) (v_P_size : Nat) (a_P_cells : Nat) (f_P_cells : Nat → Int32) (a_P_states : Nat) (f_P_states : Nat → Int32) (a_P_men : Nat) (f_P_men : Nat → Int32) (a_P_stores : Nat) (f_P_stores : Nat → Int32) (a_C_statesThen : Nat) (f_C_statesThen : Nat → Int32) (a_C_came : Nat) (f_C_came : Nat → Int32) (a_C_lacks : Nat) (f_C_lacks : Nat → Int32) (a_C_firstFrom : Nat) (f_C_firstFrom : Nat → Int32) (a_C_costs : Nat) (f_C_costs : Nat → Option Nat) (a_C_c0 : Nat) (f_C_c0 : Nat → Int32) (a_C_c1 : Nat) (f_C_c1 : Nat → Int32) (a_C_c2 : Nat) (f_C_c2 : Nat → Int32) (a_C_c3 : Nat) (f_C_c3 : Nat → Int32) (a_C_c4 : Nat) (f_C_c4 : Nat → Int32) (a_C_c5 : Nat) (f_C_c5 : Nat → Int32) (a_C_c6 : Nat) (f_C_c6 : Nat → Int32) (a_C_c7 : Nat) (f_C_c7 : Nat → Int32) (a_C_c8 : Nat) (f_C_c8 : Nat → Int32) (a_C_c9 : Nat) (f_C_c9 : Nat → Int32) (a_C_c10 : Nat) (f_C_c10 : Nat → Int32) (a_C_c11 : Nat) (f_C_c11 : Nat → Int32) (a_T : Nat) (a_C_measured : Nat) (a_P_xs : Nat) (a_P_ys : Nat) (a_P_lows : Nat) (a_P_highs : Nat) (x0 : Nat) (hv_C_postsThen : v_C_postsThen ≤ 12) (hv_P_size : v_P_size ≤ 12) (r_P_cells : uRg f_P_cells 0 255) (k_C_costs_0 : f_C_costs 0 = some a_C_c0) (k_C_costs_1 : f_C_costs 1 = some a_C_c1) (k_C_costs_2 : f_C_costs 2 = some a_C_c2) (k_C_costs_3 : f_C_costs 3 = some a_C_c3) (k_C_costs_4 : f_C_costs 4 = some a_C_c4) (k_C_costs_5 : f_C_costs 5 = some a_C_c5) (k_C_costs_6 : f_C_costs 6 = some a_C_c6) (k_C_costs_7 : f_C_costs 7 = some a_C_c7) (k_C_costs_8 : f_C_costs 8 = some a_C_c8) (k_C_costs_9 : f_C_costs 9 = some a_C_c9) (k_C_costs_10 : f_C_costs 10 = some a_C_c10) (k_C_costs_11 : f_C_costs 11 = some a_C_c11) (hx0 : x0 < 100) (i_uwSn : uwNn f_P_stores 9999 v_P_size) (i_uwMn : uwNn f_P_men 50 v_P_size) (i_uwWb : uwWb f_P_states f_P_cells v_P_size [f_C_c0, f_C_c1, f_C_c2, f_C_c3, f_C_c4, f_C_c5, f_C_c6, f_C_c7, f_C_c8, f_C_c9, f_C_c10, f_C_c11]) : uMi l yX0_carryAll cX0_carryAll 5 (some .int) { frames := 2, cells := 0, slots := 0, locals := 46 } [.ref a_C, .int (nI x0)] D K [(a_C, .inr (0, [.ref a_T, .ref a_P, .ref a_C_costs, .ref a_C_measured, .ref a_C_statesThen, .ref a_C_came, .ref a_C_lacks, .ref a_C_firstFrom, .int (nI v_C_postsThen)])), (a_P, .inr (4, [.ref a_T, .ref a_P_xs, .ref a_P_ys, .ref a_P_cells, .ref a_P_lows, .ref a_P_highs, .ref a_P_states, .ref a_P_men, .ref a_P_stores, .int (nI v_P_size)])), (a_P_cells, .inl (K 0, 12, .inl f_P_cells)), (a_P_states, .inl (K 0, 12, .inl f_P_states)), (a_P_men, .inl (K 0, 12, .inl f_P_men)), (a_P_stores, .inl (K 0, 12, .inl f_P_stores)), (a_C_statesThen, .inl (K 0, 12, .inl f_C_statesThen)), (a_C_came, .inl (K 0, 12, .inl f_C_came)), (a_C_lacks, .inl (K 0, 12, .inl f_C_lacks)), (a_C_firstFrom, .inl (K 0, 12, .inl f_C_firstFrom)), (a_C_costs, .inl (K 3, 12, .inr (.inr (.inr (.inr f_C_costs))))), (a_C_c0, .inl (K 0, 256, .inl f_C_c0)), (a_C_c1, .inl (K 0, 256, .inl f_C_c1)), (a_C_c2, .inl (K 0, 256, .inl f_C_c2)), (a_C_c3, .inl (K 0, 256, .inl f_C_c3)), (a_C_c4, .inl (K 0, 256, .inl f_C_c4)), (a_C_c5, .inl (K 0, 256, .inl f_C_c5)), (a_C_c6, .inl (K 0, 256, .inl f_C_c6)), (a_C_c7, .inl (K 0, 256, .inl f_C_c7)), (a_C_c8, .inl (K 0, 256, .inl f_C_c8)), (a_C_c9, .inl (K 0, 256, .inl f_C_c9)), (a_C_c10, .inl (K 0, 256, .inl f_C_c10)), (a_C_c11, .inl (K 0, 256, .inl f_C_c11))] sz (qwX0_carryAll_vc a_C v_C_postsThen a_P v_P_size a_P_cells f_P_cells a_P_states f_P_states a_P_men f_P_men a_P_stores f_P_stores a_C_statesThen f_C_statesThen a_C_came f_C_came a_C_lacks f_C_lacks a_C_firstFrom f_C_firstFrom a_C_costs f_C_costs a_C_c0 f_C_c0 a_C_c1 f_C_c1 a_C_c2 f_C_c2 a_C_c3 f_C_c3 a_C_c4 f_C_c4 a_C_c5 f_C_c5 a_C_c6 f_C_c6 a_C_c7 f_C_c7 a_C_c8 f_C_c8 a_C_c9 f_C_c9 a_C_c10 f_C_c10 a_C_c11 f_C_c11 a_T a_C_measured a_P_xs a_P_ys a_P_lows a_P_highs x0) (vwX0_carryAll_vc K a_C v_C_postsThen a_P v_P_size a_P_cells f_P_cells a_P_states f_P_states a_P_men f_P_men a_P_stores f_P_stores a_C_statesThen f_C_statesThen a_C_came f_C_came a_C_lacks f_C_lacks a_C_firstFrom f_C_firstFrom a_C_costs f_C_costs a_C_c0 f_C_c0 a_C_c1 f_C_c1 a_C_c2 f_C_c2 a_C_c3 f_C_c3 a_C_c4 f_C_c4 a_C_c5 f_C_c5 a_C_c6 f_C_c6 a_C_c7 f_C_c7 a_C_c8 f_C_c8 a_C_c9 f_C_c9 a_C_c10 f_C_c10 a_C_c11 f_C_c11 a_T a_C_measured a_P_xs a_P_ys a_P_lows a_P_highs x0) := by
  refine uMet (Qc := uQi D (qwX0_carryAll_vc a_C v_C_postsThen a_P v_P_size a_P_cells f_P_cells a_P_states f_P_states a_P_men f_P_men a_P_stores f_P_stores a_C_statesThen f_C_statesThen a_C_came f_C_came a_C_lacks f_C_lacks a_C_firstFrom f_C_firstFrom a_C_costs f_C_costs a_C_c0 f_C_c0 a_C_c1 f_C_c1 a_C_c2 f_C_c2 a_C_c3 f_C_c3 a_C_c4 f_C_c4 a_C_c5 f_C_c5 a_C_c6 f_C_c6 a_C_c7 f_C_c7 a_C_c8 f_C_c8 a_C_c9 f_C_c9 a_C_c10 f_C_c10 a_C_c11 f_C_c11 a_T a_C_measured a_P_xs a_P_ys a_P_lows a_P_highs x0) (vwX0_carryAll_vc K a_C v_C_postsThen a_P v_P_size a_P_cells f_P_cells a_P_states f_P_states a_P_men f_P_men a_P_stores f_P_stores a_C_statesThen f_C_statesThen a_C_came f_C_came a_C_lacks f_C_lacks a_C_firstFrom f_C_firstFrom a_C_costs f_C_costs a_C_c0 f_C_c0 a_C_c1 f_C_c1 a_C_c2 f_C_c2 a_C_c3 f_C_c3 a_C_c4 f_C_c4 a_C_c5 f_C_c5 a_C_c6 f_C_c6 a_C_c7 f_C_c7 a_C_c8 f_C_c8 a_C_c9 f_C_c9 a_C_c10 f_C_c10 a_C_c11 f_C_c11 a_T a_C_measured a_P_xs a_P_ys a_P_lows a_P_highs x0)) (ret := (some .int)) (by decide) (Nat.le_of_ble_eq_true rfl) ?_
  intro p e s m below meth c A ls hAe hsz B hP hD hS hl
  have hx := B.1
  have hb := B.2.1
  have hl : lv_has ls 5 [(0, .ref a_C), (1, .int (nI x0))] := hl
  refine lv_aload_n hx hb dX0_carryAll_0 rfl (lv_at hl 0 rfl) ?_
  refine lv_iload_n hx hb dX0_carryAll_1 rfl (lv_at hl 1 rfl) ?_
  refine uVv (As := [.int (nI x0)]) (rest := []) (wr := [(a_P_cells, .inl (K 0, 12, .inl f_P_cells)), (a_P_stores, .inl (K 0, 12, .inl f_P_stores)), (a_C_costs, .inl (K 3, 12, .inr (.inr (.inr (.inr f_C_costs))))), (a_C_c0, .inl (K 0, 256, .inl f_C_c0)), (a_C_c1, .inl (K 0, 256, .inl f_C_c1)), (a_C_c2, .inl (K 0, 256, .inl f_C_c2)), (a_C_c3, .inl (K 0, 256, .inl f_C_c3)), (a_C_c4, .inl (K 0, 256, .inl f_C_c4)), (a_C_c5, .inl (K 0, 256, .inl f_C_c5)), (a_C_c6, .inl (K 0, 256, .inl f_C_c6)), (a_C_c7, .inl (K 0, 256, .inl f_C_c7)), (a_C_c8, .inl (K 0, 256, .inl f_C_c8)), (a_C_c9, .inl (K 0, 256, .inl f_C_c9)), (a_C_c10, .inl (K 0, 256, .inl f_C_c10)), (a_C_c11, .inl (K 0, 256, .inl f_C_c11))]) [(a_C, .inr (0, [.ref a_T, .ref a_P, .ref a_C_costs, .ref a_C_measured, .ref a_C_statesThen, .ref a_C_came, .ref a_C_lacks, .ref a_C_firstFrom, .int (nI v_C_postsThen)])), (a_P, .inr (4, [.ref a_T, .ref a_P_xs, .ref a_P_ys, .ref a_P_cells, .ref a_P_lows, .ref a_P_highs, .ref a_P_states, .ref a_P_men, .ref a_P_stores, .int (nI v_P_size)])), (a_P_states, .inl (K 0, 12, .inl f_P_states)), (a_P_men, .inl (K 0, 12, .inl f_P_men)), (a_C_statesThen, .inl (K 0, 12, .inl f_C_statesThen)), (a_C_came, .inl (K 0, 12, .inl f_C_came)), (a_C_lacks, .inl (K 0, 12, .inl f_C_lacks)), (a_C_firstFrom, .inl (K 0, 12, .inl f_C_firstFrom))] B hl.1 hP hD hS [0, 1, 3, 4, 6, 7, 8, 9] [2, 5, 10, 11, 12, 13, 14, 15, 16, 17, 18, 19, 20, 21, 22] rfl rfl rfl (wX0_begin_vc l D K _ a_C v_C_postsThen a_P v_P_size a_P_states f_P_states a_P_men f_P_men a_C_statesThen f_C_statesThen a_C_came f_C_came a_C_lacks f_C_lacks a_C_firstFrom f_C_firstFrom a_T a_C_costs a_C_measured a_P_xs a_P_ys a_P_cells a_P_lows a_P_highs a_P_stores x0 (by omega) (by omega) (by omega) i_uwMn) wd_X0_begin mml_X0_108 rfl rfl rfl rfl ⟨Nat.le_of_ble_eq_true rfl, Nat.le_of_ble_eq_true rfl⟩ (Nat.le_of_ble_eq_true rfl) ⟨Nat.le_of_ble_eq_true rfl, Nat.le_of_ble_eq_true rfl⟩ dX0_carryAll_2 (fun u H locs hw hP hD hS => ?_)
  obtain ⟨u2, u3, u4, u5, u6⟩ := u
  try dsimp only at hw
  obtain ⟨w7, w8⟩ := hw
  replace w7 : u2 ≤ 12 := w7
  replace w8 : uwLk0 f_P_states f_P_men x0 v_P_size u5 := w8
  have hP : va_P D vwCl [(a_P_cells, .inl (K 0, 12, .inl f_P_cells)), (a_P_stores, .inl (K 0, 12, .inl f_P_stores)), (a_C_costs, .inl (K 3, 12, .inr (.inr (.inr (.inr f_C_costs))))), (a_C_c0, .inl (K 0, 256, .inl f_C_c0)), (a_C_c1, .inl (K 0, 256, .inl f_C_c1)), (a_C_c2, .inl (K 0, 256, .inl f_C_c2)), (a_C_c3, .inl (K 0, 256, .inl f_C_c3)), (a_C_c4, .inl (K 0, 256, .inl f_C_c4)), (a_C_c5, .inl (K 0, 256, .inl f_C_c5)), (a_C_c6, .inl (K 0, 256, .inl f_C_c6)), (a_C_c7, .inl (K 0, 256, .inl f_C_c7)), (a_C_c8, .inl (K 0, 256, .inl f_C_c8)), (a_C_c9, .inl (K 0, 256, .inl f_C_c9)), (a_C_c10, .inl (K 0, 256, .inl f_C_c10)), (a_C_c11, .inl (K 0, 256, .inl f_C_c11)), (a_C, .inr (0, [.ref a_T, .ref a_P, .ref a_C_costs, .ref a_C_measured, .ref a_C_statesThen, .ref a_C_came, .ref a_C_lacks, .ref a_C_firstFrom, .int (nI u2)])), (a_P, .inr (4, [.ref a_T, .ref a_P_xs, .ref a_P_ys, .ref a_P_cells, .ref a_P_lows, .ref a_P_highs, .ref a_P_states, .ref a_P_men, .ref a_P_stores, .int (nI v_P_size)])), (a_P_states, .inl (K 0, 12, .inl f_P_states)), (a_P_men, .inl (K 0, 12, .inl f_P_men)), (a_C_statesThen, .inl (K 0, 12, .inl u3)), (a_C_came, .inl (K 0, 12, .inl u4)), (a_C_lacks, .inl (K 0, 12, .inl u5)), (a_C_firstFrom, .inl (K 0, 12, .inl u6))] H := hP
  have hD : va_D A [(a_P_cells, .inl (K 0, 12, .inl f_P_cells)), (a_P_stores, .inl (K 0, 12, .inl f_P_stores)), (a_C_costs, .inl (K 3, 12, .inr (.inr (.inr (.inr f_C_costs))))), (a_C_c0, .inl (K 0, 256, .inl f_C_c0)), (a_C_c1, .inl (K 0, 256, .inl f_C_c1)), (a_C_c2, .inl (K 0, 256, .inl f_C_c2)), (a_C_c3, .inl (K 0, 256, .inl f_C_c3)), (a_C_c4, .inl (K 0, 256, .inl f_C_c4)), (a_C_c5, .inl (K 0, 256, .inl f_C_c5)), (a_C_c6, .inl (K 0, 256, .inl f_C_c6)), (a_C_c7, .inl (K 0, 256, .inl f_C_c7)), (a_C_c8, .inl (K 0, 256, .inl f_C_c8)), (a_C_c9, .inl (K 0, 256, .inl f_C_c9)), (a_C_c10, .inl (K 0, 256, .inl f_C_c10)), (a_C_c11, .inl (K 0, 256, .inl f_C_c11)), (a_C, .inr (0, [.ref a_T, .ref a_P, .ref a_C_costs, .ref a_C_measured, .ref a_C_statesThen, .ref a_C_came, .ref a_C_lacks, .ref a_C_firstFrom, .int (nI u2)])), (a_P, .inr (4, [.ref a_T, .ref a_P_xs, .ref a_P_ys, .ref a_P_cells, .ref a_P_lows, .ref a_P_highs, .ref a_P_states, .ref a_P_men, .ref a_P_stores, .int (nI v_P_size)])), (a_P_states, .inl (K 0, 12, .inl f_P_states)), (a_P_men, .inl (K 0, 12, .inl f_P_men)), (a_C_statesThen, .inl (K 0, 12, .inl u3)), (a_C_came, .inl (K 0, 12, .inl u4)), (a_C_lacks, .inl (K 0, 12, .inl u5)), (a_C_firstFrom, .inl (K 0, 12, .inl u6))] := hD
  refine lv_iconst (v := 0) hx hb dX0_carryAll_5 (by decide) ?_
  refine lv_istore_n (lv' := [(2, .int 0), (0, .ref a_C), (1, .int (nI x0))]) hx hb dX0_carryAll_6 rfl hl (by decide) rfl (fun ls hl => ?_)
  refine lv_pc (q := 7) rfl ?_
  refine lv_iconst (v := 0) hx hb dX0_carryAll_7 (by decide) ?_
  refine lv_istore_n (lv' := [(3, .int 0), (2, .int 0), (0, .ref a_C), (1, .int (nI x0))]) hx hb dX0_carryAll_8 rfl hl (by decide) rfl (fun ls hl => ?_)
  have L21 : ∀ (n9 : Nat) (j9 : Nat) (f10 : Nat → Int32) (f11 : Nat → Int32) (f12 : Nat → Int32) (f13 : Nat → Int32) (y14 : Int32), (j9 ≤ 24) → (uwRn (fun pY => f_P_states pY = 0) v_P_size (fun aY bY => ([f_C_c0, f_C_c1, f_C_c2, f_C_c3, f_C_c4, f_C_c5, f_C_c6, f_C_c7, f_C_c8, f_C_c9, f_C_c10, f_C_c11] : List (Nat → Int32)).getD aY (fun _ => 0) (uN (f_P_cells bY))) f_P_stores u5 0 j9 f10 f11 y14) → (uwNn f10 9999 v_P_size) → (uwNn f11 4950 v_P_size) → (∀ pY, pY < v_P_size → ¬ f11 pY = 0 → f_P_states pY = 0) → (uwLf v_P_size f10 f11 + j9 ≤ 24) → 24 - j9 < n9 → ∀ (H : Heap) (locs : List Loc) (ls : Array Slot), va_P D vwCl [(a_P_cells, .inl (K 0, 12, .inl f_P_cells)), (a_P_stores, .inl (K 0, 12, .inl f10)), (a_C_costs, .inl (K 3, 12, .inr (.inr (.inr (.inr f_C_costs))))), (a_C_c0, .inl (K 0, 256, .inl f_C_c0)), (a_C_c1, .inl (K 0, 256, .inl f_C_c1)), (a_C_c2, .inl (K 0, 256, .inl f_C_c2)), (a_C_c3, .inl (K 0, 256, .inl f_C_c3)), (a_C_c4, .inl (K 0, 256, .inl f_C_c4)), (a_C_c5, .inl (K 0, 256, .inl f_C_c5)), (a_C_c6, .inl (K 0, 256, .inl f_C_c6)), (a_C_c7, .inl (K 0, 256, .inl f_C_c7)), (a_C_c8, .inl (K 0, 256, .inl f_C_c8)), (a_C_c9, .inl (K 0, 256, .inl f_C_c9)), (a_C_c10, .inl (K 0, 256, .inl f_C_c10)), (a_C_c11, .inl (K 0, 256, .inl f_C_c11)), (a_C, .inr (0, [.ref a_T, .ref a_P, .ref a_C_costs, .ref a_C_measured, .ref a_C_statesThen, .ref a_C_came, .ref a_C_lacks, .ref a_C_firstFrom, .int (nI u2)])), (a_P, .inr (4, [.ref a_T, .ref a_P_xs, .ref a_P_ys, .ref a_P_cells, .ref a_P_lows, .ref a_P_highs, .ref a_P_states, .ref a_P_men, .ref a_P_stores, .int (nI v_P_size)])), (a_P_states, .inl (K 0, 12, .inl f_P_states)), (a_P_men, .inl (K 0, 12, .inl f_P_men)), (a_C_statesThen, .inl (K 0, 12, .inl u3)), (a_C_came, .inl (K 0, 12, .inl f12)), (a_C_lacks, .inl (K 0, 12, .inl f11)), (a_C_firstFrom, .inl (K 0, 12, .inl f13))] H → va_D A [(a_P_cells, .inl (K 0, 12, .inl f_P_cells)), (a_P_stores, .inl (K 0, 12, .inl f10)), (a_C_costs, .inl (K 3, 12, .inr (.inr (.inr (.inr f_C_costs))))), (a_C_c0, .inl (K 0, 256, .inl f_C_c0)), (a_C_c1, .inl (K 0, 256, .inl f_C_c1)), (a_C_c2, .inl (K 0, 256, .inl f_C_c2)), (a_C_c3, .inl (K 0, 256, .inl f_C_c3)), (a_C_c4, .inl (K 0, 256, .inl f_C_c4)), (a_C_c5, .inl (K 0, 256, .inl f_C_c5)), (a_C_c6, .inl (K 0, 256, .inl f_C_c6)), (a_C_c7, .inl (K 0, 256, .inl f_C_c7)), (a_C_c8, .inl (K 0, 256, .inl f_C_c8)), (a_C_c9, .inl (K 0, 256, .inl f_C_c9)), (a_C_c10, .inl (K 0, 256, .inl f_C_c10)), (a_C_c11, .inl (K 0, 256, .inl f_C_c11)), (a_C, .inr (0, [.ref a_T, .ref a_P, .ref a_C_costs, .ref a_C_measured, .ref a_C_statesThen, .ref a_C_came, .ref a_C_lacks, .ref a_C_firstFrom, .int (nI u2)])), (a_P, .inr (4, [.ref a_T, .ref a_P_xs, .ref a_P_ys, .ref a_P_cells, .ref a_P_lows, .ref a_P_highs, .ref a_P_states, .ref a_P_men, .ref a_P_stores, .int (nI v_P_size)])), (a_P_states, .inl (K 0, 12, .inl f_P_states)), (a_P_men, .inl (K 0, 12, .inl f_P_men)), (a_C_statesThen, .inl (K 0, 12, .inl u3)), (a_C_came, .inl (K 0, 12, .inl f12)), (a_C_lacks, .inl (K 0, 12, .inl f11)), (a_C_firstFrom, .inl (K 0, 12, .inl f13))] → va_S A s.heap H locs → lv_has ls 5 [(3, .int (nI j9)), (2, .int y14), (0, .ref a_C), (1, .int (nI x0))] → W p l e { frames := 2, cells := 0, slots := 0, locals := 46 } s m ([.ref a_C, .int (nI x0)] : List Value).toArray below meth c H locs 0 0 (MQ below (uQi D (qwX0_carryAll_vc a_C v_C_postsThen a_P v_P_size a_P_cells f_P_cells a_P_states f_P_states a_P_men f_P_men a_P_stores f_P_stores a_C_statesThen f_C_statesThen a_C_came f_C_came a_C_lacks f_C_lacks a_C_firstFrom f_C_firstFrom a_C_costs f_C_costs a_C_c0 f_C_c0 a_C_c1 f_C_c1 a_C_c2 f_C_c2 a_C_c3 f_C_c3 a_C_c4 f_C_c4 a_C_c5 f_C_c5 a_C_c6 f_C_c6 a_C_c7 f_C_c7 a_C_c8 f_C_c8 a_C_c9 f_C_c9 a_C_c10 f_C_c10 a_C_c11 f_C_c11 a_T a_C_measured a_P_xs a_P_ys a_P_lows a_P_highs x0) (vwX0_carryAll_vc K a_C v_C_postsThen a_P v_P_size a_P_cells f_P_cells a_P_states f_P_states a_P_men f_P_men a_P_stores f_P_stores a_C_statesThen f_C_statesThen a_C_came f_C_came a_C_lacks f_C_lacks a_C_firstFrom f_C_firstFrom a_C_costs f_C_costs a_C_c0 f_C_c0 a_C_c1 f_C_c1 a_C_c2 f_C_c2 a_C_c3 f_C_c3 a_C_c4 f_C_c4 a_C_c5 f_C_c5 a_C_c6 f_C_c6 a_C_c7 f_C_c7 a_C_c8 f_C_c8 a_C_c9 f_C_c9 a_C_c10 f_C_c10 a_C_c11 f_C_c11 a_T a_C_measured a_P_xs a_P_ys a_P_lows a_P_highs x0) A) ([.ref a_C, .int (nI x0)] : List Value).toArray s 0 0 A) (F0 m 9 ls []) := by
    intro n9
    induction n9 with
    | zero => intros; exact absurd ‹_ < 0› (Nat.not_lt_zero _)
    | succ n9_ ih9 =>
      intro j9 f10 f11 f12 f13 y14 hj9 xr_15 xs_16 xn_17 xf_18 xc_19 hm9 H locs ls hP hD hS hl
      refine lv_iload_n hx hb dX0_carryAll_9 rfl (lv_at hl 0 rfl) ?_
      refine lv_bipush (v := 24) hx hb dX0_carryAll_10 (by decide) ?_
      refine lv_icmp_ge (tgt := 53) hx hb dX0_carryAll_12 (by decide) (fun c22 => ?_) (fun c22 => ?_)
      · have k_22 : 24 ≤ j9 := (nI_leI (a := 24) (b := j9) (by omega) (by omega)).mp c22
        refine lv_iload_n hx hb dX0_carryAll_53 rfl (lv_at hl 1 rfl) ?_
        refine lv_pc (q := 54) rfl ?_
        exact uRi (u2, f10, u3, f12, f11, f13) B ⟨⟨u5, w8, _, xr_15, (uwLf0 (by have q9 := xc_19; (try dsimp only); omega))⟩, (by (try dsimp only); omega)⟩ (uSub hP [15, 16, 0, 17, 18, 1, 19, 20, 21, 22, 2, 3, 4, 5, 6, 7, 8, 9, 10, 11, 12, 13, 14] rfl) (hD.sub [15, 16, 0, 17, 18, 1, 19, 20, 21, 22, 2, 3, 4, 5, 6, 7, 8, 9, 10, 11, 12, 13, 14] rfl rfl) hS dX0_carryAll_54
      have k_22 : ¬ 24 ≤ j9 := fun h9 => c22 ((nI_leI (a := 24) (b := j9) (by omega) (by omega)).mpr h9)
      refine lv_aload_n hx hb dX0_carryAll_15 rfl (lv_at hl 2 rfl) ?_
      refine lv_pc (q := 16) rfl ?_
      refine uVi (As := []) (rest := []) (wr := [(a_P_men, .inl (K 0, 12, .inl f_P_men)), (a_C_statesThen, .inl (K 0, 12, .inl u3)), (a_C_came, .inl (K 0, 12, .inl f12)), (a_C_firstFrom, .inl (K 0, 12, .inl f13))]) [(a_C, .inr (0, [.ref a_T, .ref a_P, .ref a_C_costs, .ref a_C_measured, .ref a_C_statesThen, .ref a_C_came, .ref a_C_lacks, .ref a_C_firstFrom, .int (nI u2)])), (a_P, .inr (4, [.ref a_T, .ref a_P_xs, .ref a_P_ys, .ref a_P_cells, .ref a_P_lows, .ref a_P_highs, .ref a_P_states, .ref a_P_men, .ref a_P_stores, .int (nI v_P_size)])), (a_P_cells, .inl (K 0, 12, .inl f_P_cells)), (a_P_states, .inl (K 0, 12, .inl f_P_states)), (a_P_stores, .inl (K 0, 12, .inl f10)), (a_C_lacks, .inl (K 0, 12, .inl f11)), (a_C_costs, .inl (K 3, 12, .inr (.inr (.inr (.inr f_C_costs))))), (a_C_c0, .inl (K 0, 256, .inl f_C_c0)), (a_C_c1, .inl (K 0, 256, .inl f_C_c1)), (a_C_c2, .inl (K 0, 256, .inl f_C_c2)), (a_C_c3, .inl (K 0, 256, .inl f_C_c3)), (a_C_c4, .inl (K 0, 256, .inl f_C_c4)), (a_C_c5, .inl (K 0, 256, .inl f_C_c5)), (a_C_c6, .inl (K 0, 256, .inl f_C_c6)), (a_C_c7, .inl (K 0, 256, .inl f_C_c7)), (a_C_c8, .inl (K 0, 256, .inl f_C_c8)), (a_C_c9, .inl (K 0, 256, .inl f_C_c9)), (a_C_c10, .inl (K 0, 256, .inl f_C_c10)), (a_C_c11, .inl (K 0, 256, .inl f_C_c11))] B hl.1 hP hD hS [15, 16, 0, 17, 1, 21, 2, 3, 4, 5, 6, 7, 8, 9, 10, 11, 12, 13, 14] [18, 19, 20, 22] rfl rfl rfl (wX0_nearestPair_vc l D K _ a_C u2 a_P v_P_size a_P_cells f_P_cells a_P_states f_P_states a_P_stores f10 a_C_lacks f11 a_C_costs f_C_costs a_C_c0 f_C_c0 a_C_c1 f_C_c1 a_C_c2 f_C_c2 a_C_c3 f_C_c3 a_C_c4 f_C_c4 a_C_c5 f_C_c5 a_C_c6 f_C_c6 a_C_c7 f_C_c7 a_C_c8 f_C_c8 a_C_c9 f_C_c9 a_C_c10 f_C_c10 a_C_c11 f_C_c11 a_T a_C_measured a_C_statesThen a_C_came a_C_firstFrom a_P_xs a_P_ys a_P_lows a_P_highs a_P_men (by omega) (by omega) r_P_cells k_C_costs_0 k_C_costs_1 k_C_costs_2 k_C_costs_3 k_C_costs_4 k_C_costs_5 k_C_costs_6 k_C_costs_7 k_C_costs_8 k_C_costs_9 k_C_costs_10 k_C_costs_11 xs_16 xn_17 xf_18 i_uwWb) wd_X0_nearestPair mml_X0_111 rfl rfl rfl rfl ⟨Nat.le_of_ble_eq_true rfl, Nat.le_of_ble_eq_true rfl⟩ (Nat.le_of_ble_eq_true rfl) ⟨Nat.le_of_ble_eq_true rfl, Nat.le_of_ble_eq_true rfl⟩ dX0_carryAll_16 (fun r23 u H locs hw hP hD hS => ?_)
      try dsimp only at hw
      have w24 := hw
      have hP : va_P D vwCl [(a_P_men, .inl (K 0, 12, .inl f_P_men)), (a_C_statesThen, .inl (K 0, 12, .inl u3)), (a_C_came, .inl (K 0, 12, .inl f12)), (a_C_firstFrom, .inl (K 0, 12, .inl f13)), (a_C, .inr (0, [.ref a_T, .ref a_P, .ref a_C_costs, .ref a_C_measured, .ref a_C_statesThen, .ref a_C_came, .ref a_C_lacks, .ref a_C_firstFrom, .int (nI u2)])), (a_P, .inr (4, [.ref a_T, .ref a_P_xs, .ref a_P_ys, .ref a_P_cells, .ref a_P_lows, .ref a_P_highs, .ref a_P_states, .ref a_P_men, .ref a_P_stores, .int (nI v_P_size)])), (a_P_cells, .inl (K 0, 12, .inl f_P_cells)), (a_P_states, .inl (K 0, 12, .inl f_P_states)), (a_P_stores, .inl (K 0, 12, .inl f10)), (a_C_lacks, .inl (K 0, 12, .inl f11)), (a_C_costs, .inl (K 3, 12, .inr (.inr (.inr (.inr f_C_costs))))), (a_C_c0, .inl (K 0, 256, .inl f_C_c0)), (a_C_c1, .inl (K 0, 256, .inl f_C_c1)), (a_C_c2, .inl (K 0, 256, .inl f_C_c2)), (a_C_c3, .inl (K 0, 256, .inl f_C_c3)), (a_C_c4, .inl (K 0, 256, .inl f_C_c4)), (a_C_c5, .inl (K 0, 256, .inl f_C_c5)), (a_C_c6, .inl (K 0, 256, .inl f_C_c6)), (a_C_c7, .inl (K 0, 256, .inl f_C_c7)), (a_C_c8, .inl (K 0, 256, .inl f_C_c8)), (a_C_c9, .inl (K 0, 256, .inl f_C_c9)), (a_C_c10, .inl (K 0, 256, .inl f_C_c10)), (a_C_c11, .inl (K 0, 256, .inl f_C_c11))] H := hP
      have hD : va_D A [(a_P_men, .inl (K 0, 12, .inl f_P_men)), (a_C_statesThen, .inl (K 0, 12, .inl u3)), (a_C_came, .inl (K 0, 12, .inl f12)), (a_C_firstFrom, .inl (K 0, 12, .inl f13)), (a_C, .inr (0, [.ref a_T, .ref a_P, .ref a_C_costs, .ref a_C_measured, .ref a_C_statesThen, .ref a_C_came, .ref a_C_lacks, .ref a_C_firstFrom, .int (nI u2)])), (a_P, .inr (4, [.ref a_T, .ref a_P_xs, .ref a_P_ys, .ref a_P_cells, .ref a_P_lows, .ref a_P_highs, .ref a_P_states, .ref a_P_men, .ref a_P_stores, .int (nI v_P_size)])), (a_P_cells, .inl (K 0, 12, .inl f_P_cells)), (a_P_states, .inl (K 0, 12, .inl f_P_states)), (a_P_stores, .inl (K 0, 12, .inl f10)), (a_C_lacks, .inl (K 0, 12, .inl f11)), (a_C_costs, .inl (K 3, 12, .inr (.inr (.inr (.inr f_C_costs))))), (a_C_c0, .inl (K 0, 256, .inl f_C_c0)), (a_C_c1, .inl (K 0, 256, .inl f_C_c1)), (a_C_c2, .inl (K 0, 256, .inl f_C_c2)), (a_C_c3, .inl (K 0, 256, .inl f_C_c3)), (a_C_c4, .inl (K 0, 256, .inl f_C_c4)), (a_C_c5, .inl (K 0, 256, .inl f_C_c5)), (a_C_c6, .inl (K 0, 256, .inl f_C_c6)), (a_C_c7, .inl (K 0, 256, .inl f_C_c7)), (a_C_c8, .inl (K 0, 256, .inl f_C_c8)), (a_C_c9, .inl (K 0, 256, .inl f_C_c9)), (a_C_c10, .inl (K 0, 256, .inl f_C_c10)), (a_C_c11, .inl (K 0, 256, .inl f_C_c11))] := hD
      refine lv_istore (lv' := [(4, .int r23), (3, .int (nI j9)), (2, .int y14), (0, .ref a_C), (1, .int (nI x0))]) hx hb dX0_carryAll_19 hl (by decide) rfl (fun ls hl => ?_)
      refine lv_iload hx hb dX0_carryAll_21 (lv_at hl 0 rfl) ?_
      refine lv_iconst (v := (-1)) hx hb dX0_carryAll_23 (by decide) ?_
      refine lv_icmp_ne (tgt := 30) hx hb dX0_carryAll_24 (by decide) (fun c25 => ?_) (fun c25 => ?_)
      · obtain ⟨a26, a27, ⟨ha26, ha27⟩, cda26, ea26⟩ := uwNpG w24 c25
        refine lv_iload_n hx hb dX0_carryAll_30 rfl (lv_at hl 2 rfl) ?_
        refine lv_pc (q := 31) rfl ?_
        refine lv_aload_n hx hb dX0_carryAll_31 rfl (lv_at hl 3 rfl) ?_
        refine lv_iload hx hb dX0_carryAll_32 (lv_at hl 0 rfl) ?_
        refine lv_fixi (y := (nI (a26 * 12 + a27))) ea26 ?_
        refine lv_bipush (v := 12) hx hb dX0_carryAll_34 (by decide) ?_
        refine lv_idiv hx hb dX0_carryAll_36 (by decide) ?_
        refine lv_fixi (y := (nI ((a26 * 12 + a27) / 12))) (by rw [show (12 : Int32) = nI 12 from rfl, pk_div (by omega) (by omega) (by omega)]) ?_
        refine lv_fixi (y := (nI a26)) (congrArg nI (show (a26 * 12 + a27) / 12 = a26 by omega)) ?_
        refine lv_iload hx hb dX0_carryAll_37 (lv_at hl 0 rfl) ?_
        refine lv_fixi (y := (nI (a26 * 12 + a27))) ea26 ?_
        refine lv_bipush (v := 12) hx hb dX0_carryAll_39 (by decide) ?_
        refine lv_pc (q := 41) rfl ?_
        refine lv_irem hx hb dX0_carryAll_41 (by decide) ?_
        refine lv_fixi (y := (nI ((a26 * 12 + a27) % 12))) (by rw [show (12 : Int32) = nI 12 from rfl, pk_rem (by omega) (by omega) (by omega)]) ?_
        refine lv_fixi (y := (nI a27)) (congrArg nI (show (a26 * 12 + a27) % 12 = a27 by omega)) ?_
        refine uVi (As := [.int (nI a26), .int (nI a27)]) (rest := [.int y14]) (wr := [(a_P_men, .inl (K 0, 12, .inl f_P_men)), (a_C_statesThen, .inl (K 0, 12, .inl u3)), (a_P_states, .inl (K 0, 12, .inl f_P_states))]) [(a_C, .inr (0, [.ref a_T, .ref a_P, .ref a_C_costs, .ref a_C_measured, .ref a_C_statesThen, .ref a_C_came, .ref a_C_lacks, .ref a_C_firstFrom, .int (nI u2)])), (a_P, .inr (4, [.ref a_T, .ref a_P_xs, .ref a_P_ys, .ref a_P_cells, .ref a_P_lows, .ref a_P_highs, .ref a_P_states, .ref a_P_men, .ref a_P_stores, .int (nI v_P_size)])), (a_P_cells, .inl (K 0, 12, .inl f_P_cells)), (a_P_stores, .inl (K 0, 12, .inl f10)), (a_C_came, .inl (K 0, 12, .inl f12)), (a_C_lacks, .inl (K 0, 12, .inl f11)), (a_C_firstFrom, .inl (K 0, 12, .inl f13)), (a_C_costs, .inl (K 3, 12, .inr (.inr (.inr (.inr f_C_costs))))), (a_C_c0, .inl (K 0, 256, .inl f_C_c0)), (a_C_c1, .inl (K 0, 256, .inl f_C_c1)), (a_C_c2, .inl (K 0, 256, .inl f_C_c2)), (a_C_c3, .inl (K 0, 256, .inl f_C_c3)), (a_C_c4, .inl (K 0, 256, .inl f_C_c4)), (a_C_c5, .inl (K 0, 256, .inl f_C_c5)), (a_C_c6, .inl (K 0, 256, .inl f_C_c6)), (a_C_c7, .inl (K 0, 256, .inl f_C_c7)), (a_C_c8, .inl (K 0, 256, .inl f_C_c8)), (a_C_c9, .inl (K 0, 256, .inl f_C_c9)), (a_C_c10, .inl (K 0, 256, .inl f_C_c10)), (a_C_c11, .inl (K 0, 256, .inl f_C_c11))] B hl.1 hP hD hS [4, 5, 6, 8, 2, 9, 3, 10, 11, 12, 13, 14, 15, 16, 17, 18, 19, 20, 21, 22] [0, 1, 7] rfl rfl rfl (wX0_carry_vc l D K _ a_C u2 a_P v_P_size a_P_cells f_P_cells a_P_stores f10 a_C_came f12 a_C_lacks f11 a_C_firstFrom f13 a_C_costs f_C_costs a_C_c0 f_C_c0 a_C_c1 f_C_c1 a_C_c2 f_C_c2 a_C_c3 f_C_c3 a_C_c4 f_C_c4 a_C_c5 f_C_c5 a_C_c6 f_C_c6 a_C_c7 f_C_c7 a_C_c8 f_C_c8 a_C_c9 f_C_c9 a_C_c10 f_C_c10 a_C_c11 f_C_c11 a_T a_C_measured a_C_statesThen a_P_xs a_P_ys a_P_lows a_P_highs a_P_states a_P_men a26 a27 (by omega) (by omega) r_P_cells k_C_costs_0 k_C_costs_1 k_C_costs_2 k_C_costs_3 k_C_costs_4 k_C_costs_5 k_C_costs_6 k_C_costs_7 k_C_costs_8 k_C_costs_9 k_C_costs_10 k_C_costs_11 (by omega) (by omega) xs_16 xn_17) wd_X0_carry mml_X0_115 rfl rfl rfl rfl ⟨Nat.le_of_ble_eq_true rfl, Nat.le_of_ble_eq_true rfl⟩ (Nat.le_of_ble_eq_true rfl) ⟨Nat.le_of_ble_eq_true rfl, Nat.le_of_ble_eq_true rfl⟩ dX0_carryAll_42 (fun r28 u H locs hw hP hD hS => ?_)
        obtain ⟨u29, u30, u31, u32⟩ := u
        try dsimp only at hw
        have w33 := hw
        have hP : va_P D vwCl [(a_P_men, .inl (K 0, 12, .inl f_P_men)), (a_C_statesThen, .inl (K 0, 12, .inl u3)), (a_P_states, .inl (K 0, 12, .inl f_P_states)), (a_C, .inr (0, [.ref a_T, .ref a_P, .ref a_C_costs, .ref a_C_measured, .ref a_C_statesThen, .ref a_C_came, .ref a_C_lacks, .ref a_C_firstFrom, .int (nI u2)])), (a_P, .inr (4, [.ref a_T, .ref a_P_xs, .ref a_P_ys, .ref a_P_cells, .ref a_P_lows, .ref a_P_highs, .ref a_P_states, .ref a_P_men, .ref a_P_stores, .int (nI v_P_size)])), (a_P_cells, .inl (K 0, 12, .inl f_P_cells)), (a_P_stores, .inl (K 0, 12, .inl u29)), (a_C_came, .inl (K 0, 12, .inl u30)), (a_C_lacks, .inl (K 0, 12, .inl u31)), (a_C_firstFrom, .inl (K 0, 12, .inl u32)), (a_C_costs, .inl (K 3, 12, .inr (.inr (.inr (.inr f_C_costs))))), (a_C_c0, .inl (K 0, 256, .inl f_C_c0)), (a_C_c1, .inl (K 0, 256, .inl f_C_c1)), (a_C_c2, .inl (K 0, 256, .inl f_C_c2)), (a_C_c3, .inl (K 0, 256, .inl f_C_c3)), (a_C_c4, .inl (K 0, 256, .inl f_C_c4)), (a_C_c5, .inl (K 0, 256, .inl f_C_c5)), (a_C_c6, .inl (K 0, 256, .inl f_C_c6)), (a_C_c7, .inl (K 0, 256, .inl f_C_c7)), (a_C_c8, .inl (K 0, 256, .inl f_C_c8)), (a_C_c9, .inl (K 0, 256, .inl f_C_c9)), (a_C_c10, .inl (K 0, 256, .inl f_C_c10)), (a_C_c11, .inl (K 0, 256, .inl f_C_c11))] H := hP
        have hD : va_D A [(a_P_men, .inl (K 0, 12, .inl f_P_men)), (a_C_statesThen, .inl (K 0, 12, .inl u3)), (a_P_states, .inl (K 0, 12, .inl f_P_states)), (a_C, .inr (0, [.ref a_T, .ref a_P, .ref a_C_costs, .ref a_C_measured, .ref a_C_statesThen, .ref a_C_came, .ref a_C_lacks, .ref a_C_firstFrom, .int (nI u2)])), (a_P, .inr (4, [.ref a_T, .ref a_P_xs, .ref a_P_ys, .ref a_P_cells, .ref a_P_lows, .ref a_P_highs, .ref a_P_states, .ref a_P_men, .ref a_P_stores, .int (nI v_P_size)])), (a_P_cells, .inl (K 0, 12, .inl f_P_cells)), (a_P_stores, .inl (K 0, 12, .inl u29)), (a_C_came, .inl (K 0, 12, .inl u30)), (a_C_lacks, .inl (K 0, 12, .inl u31)), (a_C_firstFrom, .inl (K 0, 12, .inl u32)), (a_C_costs, .inl (K 3, 12, .inr (.inr (.inr (.inr f_C_costs))))), (a_C_c0, .inl (K 0, 256, .inl f_C_c0)), (a_C_c1, .inl (K 0, 256, .inl f_C_c1)), (a_C_c2, .inl (K 0, 256, .inl f_C_c2)), (a_C_c3, .inl (K 0, 256, .inl f_C_c3)), (a_C_c4, .inl (K 0, 256, .inl f_C_c4)), (a_C_c5, .inl (K 0, 256, .inl f_C_c5)), (a_C_c6, .inl (K 0, 256, .inl f_C_c6)), (a_C_c7, .inl (K 0, 256, .inl f_C_c7)), (a_C_c8, .inl (K 0, 256, .inl f_C_c8)), (a_C_c9, .inl (K 0, 256, .inl f_C_c9)), (a_C_c10, .inl (K 0, 256, .inl f_C_c10)), (a_C_c11, .inl (K 0, 256, .inl f_C_c11))] := hD
        replace w33 : uwCy f10 f11 u29 u31 a26 a27 (([f_C_c0, f_C_c1, f_C_c2, f_C_c3, f_C_c4, f_C_c5, f_C_c6, f_C_c7, f_C_c8, f_C_c9, f_C_c10, f_C_c11] : List (Nat → Int32)).getD a26 (fun _ => 0) (uN (f_P_cells a27))) r28 := w33
        refine lv_iadd hx hb dX0_carryAll_45 ?_
        refine lv_istore_n (lv' := [(2, .int (y14 + r28)), (4, .int r23), (3, .int (nI j9)), (0, .ref a_C), (1, .int (nI x0))]) hx hb dX0_carryAll_46 rfl hl (by decide) rfl (fun ls hl => ?_)
        refine lv_iinc (v := nI (j9 + 1)) (lv' := [(3, .int (nI (j9 + 1))), (2, .int (y14 + r28)), (4, .int r23), (0, .ref a_C), (1, .int (nI x0))]) hx hb dX0_carryAll_47 hl (k := 2) rfl (nI_1 _) (by decide) rfl (fun ls hl => ?_)
        refine lv_goto (tgt := 9) hx hb dX0_carryAll_50 (by decide) ?_
        refine lv_pc (q := 9) rfl ?_
        refine W.widen (k := 0) (n := 0) (Nat.le_of_ble_eq_true rfl) (Nat.le_of_ble_eq_true rfl) ?_
        exact ih9 (j9 + 1) u29 u31 u30 u32 (y14 + r28) (by omega) (uwRnS xr_15 w24 ea26 ha26 ha27 w33) (uwCyN w33 xs_16 xn_17 ha26 ha27 (by omega) (by omega)).1 (uwCyN w33 xs_16 xn_17 ha26 ha27 (by omega) (by omega)).2 (uwCyF (B := 0) w33 xf_18 cda26.2.2) (uwCyL w33 xs_16 xn_17 ha26 ha27 cda26 xc_19) (by omega) _ _ _ (uSub hP [5, 6, 10, 11, 12, 13, 14, 15, 16, 17, 18, 19, 20, 21, 22, 3, 4, 2, 0, 1, 7, 8, 9] rfl) (hD.sub [5, 6, 10, 11, 12, 13, 14, 15, 16, 17, 18, 19, 20, 21, 22, 3, 4, 2, 0, 1, 7, 8, 9] rfl rfl) hS (lv_sub hl [0, 1, 3, 4] rfl)
      refine lv_goto (tgt := 53) hx hb dX0_carryAll_27 (by decide) ?_
      refine lv_pc (q := 53) rfl ?_
      refine lv_iload_n hx hb dX0_carryAll_53 rfl (lv_at hl 2 rfl) ?_
      exact uRi (u2, f10, u3, f12, f11, f13) B ⟨⟨u5, w8, _, xr_15, (uwNpN (by omega) w24 c25)⟩, (by (try dsimp only); omega)⟩ (uSub hP [4, 5, 6, 7, 0, 8, 1, 2, 9, 3, 10, 11, 12, 13, 14, 15, 16, 17, 18, 19, 20, 21, 22] rfl) (hD.sub [4, 5, 6, 7, 0, 8, 1, 2, 9, 3, 10, 11, 12, 13, 14, 15, 16, 17, 18, 19, 20, 21, 22] rfl rfl) hS dX0_carryAll_54
  refine lv_pc (q := 9) rfl ?_
  refine W.widen (k := 0) (n := 0) (Nat.le_of_ble_eq_true rfl) (Nat.le_of_ble_eq_true rfl) ?_
  exact L21 ((24 - 0) + 1) 0 f_P_stores u5 u4 u6 0 (by omega) ⟨rfl, rfl, rfl⟩ i_uwSn (uwLkB w8 i_uwMn (by omega)) (uwLkF w8) (uwLf24 (by omega)) (Nat.lt_succ_self _) _ _ _ hP hD hS hl
def qwX12_nextCarry_vc (a_m : Nat) (v_m_thrown : Int32) (v_m_wide : Nat) (v_m_tall : Nat) (v_m_bend : Int32) (v_m_posts : Nat) (v_m_notes : Nat) (v_m_moved : Int32) (v_m_inLine : Int32) (v_m_couldBe : Int32) (v_m_isJoined : Int32) (v_m_rivalMany : Nat) (v_m_wereSupposed : Int32) (v_m_taped : Nat) (v_m_size : Nat) (v_m_at : Nat) (v_m_place : Nat) (v_m_sort : Int32) (v_m_value : Int32) (v_m_name : Int64) (v_m_toldMinutes : Int32) (v_m_toldLook : Int32) (v_m_fault : Int32) (v_m_faultPlace : Int32) (v_m_lastFault : Int32) (v_m_lastPlace : Int32) (v_m_isSent : Int32) (v_m_seen : Nat) (v_m_isSpent : Int32) (v_m_sentLast : Int32) (v_m_sentOther : Int32) (v_m_sentNone : Int32) (v_m_sentOrders : Int32) (v_m_isSupplied : Int32) (a_m_store : Nat) (f_m_store : Nat → Int32) (a_m_ways : Nat) (f_m_ways : Nat → Int32) (a_m_lacks : Nat) (f_m_lacks : Nat → Int32) (a_m_wasFound : Nat) (f_m_wasFound : Nat → Int32) (a_m_heights : Nat) (a_m_woods : Nat) (a_m_treesLow : Nat) (a_m_treesHigh : Nat) (a_m_worst : Nat) (a_m_best : Nat) (a_m_px : Nat) (a_m_py : Nat) (a_m_towerLow : Nat) (a_m_towerHigh : Nat) (a_m_state : Nat) (a_m_men : Nat) (a_m_noteSort : Nat) (a_m_noteA : Nat) (a_m_noteB : Nat) (a_m_isStruck : Nat) (a_m_least : Nat) (a_m_most : Nat) (a_m_near : Nat) (a_m_rivals : Nat) (a_m_tape : Nat) (a_m_words : Nat) (a_m_wordName : Nat) (a_m_wordLong : Nat) (a_m_wordSigns : Nat) (a_m_likeMany : Nat) (a_m_likeA : Nat) (a_m_likeB : Nat) (a_m_minutes : Nat) (a_m_look : Nat) (a_m_orders : Nat) (a_m_orderPost : Nat) (a_m_orderName : Nat) (a_m_orderPlace : Nat) (a_m_orderWord : Nat) (a_m_isTwice : Nat) (a_m_actMany : Nat) (a_m_actKind : Nat) (a_m_actName : Nat) (a_m_actPlace : Nat) (a_m_actWord : Nat) (a_m_actTo : Nat) (a_m_actWait : Nat) (a_m_dim : Nat) (a_m_seenMinute : Nat) (a_m_seenTo : Nat) (a_m_seenFrom : Nat) (a_m_seenWord : Nat) (a_m_isLooked : Nat) (a_m_heardMinute : Nat) (a_m_heardFrom : Nat) (a_m_heardSent : Nat) (a_m_heardBy : Nat) (a_m_busy : Nat) (a_m_stopped : Nat) (a_m_did : Nat) (a_m_nearSure : Nat) (a_m_cost : Nat) (a_m_isDone : Nat) (a_m_came : Nat) (a_m_firstFrom : Nat) (a_m_wasThere : Nat) : Int32 → (Unit) → Prop := (fun (r : Int32) (u : Unit) => uwNp r v_m_posts (uwCd (fun pY => f_m_wasFound pY = 1) f_m_store f_m_lacks) (fun aY bY => f_m_ways (12 * aY + bY)))
def vwX12_nextCarry_vc (K : Nat → ClassId) (a_m : Nat) (v_m_thrown : Int32) (v_m_wide : Nat) (v_m_tall : Nat) (v_m_bend : Int32) (v_m_posts : Nat) (v_m_notes : Nat) (v_m_moved : Int32) (v_m_inLine : Int32) (v_m_couldBe : Int32) (v_m_isJoined : Int32) (v_m_rivalMany : Nat) (v_m_wereSupposed : Int32) (v_m_taped : Nat) (v_m_size : Nat) (v_m_at : Nat) (v_m_place : Nat) (v_m_sort : Int32) (v_m_value : Int32) (v_m_name : Int64) (v_m_toldMinutes : Int32) (v_m_toldLook : Int32) (v_m_fault : Int32) (v_m_faultPlace : Int32) (v_m_lastFault : Int32) (v_m_lastPlace : Int32) (v_m_isSent : Int32) (v_m_seen : Nat) (v_m_isSpent : Int32) (v_m_sentLast : Int32) (v_m_sentOther : Int32) (v_m_sentNone : Int32) (v_m_sentOrders : Int32) (v_m_isSupplied : Int32) (a_m_store : Nat) (f_m_store : Nat → Int32) (a_m_ways : Nat) (f_m_ways : Nat → Int32) (a_m_lacks : Nat) (f_m_lacks : Nat → Int32) (a_m_wasFound : Nat) (f_m_wasFound : Nat → Int32) (a_m_heights : Nat) (a_m_woods : Nat) (a_m_treesLow : Nat) (a_m_treesHigh : Nat) (a_m_worst : Nat) (a_m_best : Nat) (a_m_px : Nat) (a_m_py : Nat) (a_m_towerLow : Nat) (a_m_towerHigh : Nat) (a_m_state : Nat) (a_m_men : Nat) (a_m_noteSort : Nat) (a_m_noteA : Nat) (a_m_noteB : Nat) (a_m_isStruck : Nat) (a_m_least : Nat) (a_m_most : Nat) (a_m_near : Nat) (a_m_rivals : Nat) (a_m_tape : Nat) (a_m_words : Nat) (a_m_wordName : Nat) (a_m_wordLong : Nat) (a_m_wordSigns : Nat) (a_m_likeMany : Nat) (a_m_likeA : Nat) (a_m_likeB : Nat) (a_m_minutes : Nat) (a_m_look : Nat) (a_m_orders : Nat) (a_m_orderPost : Nat) (a_m_orderName : Nat) (a_m_orderPlace : Nat) (a_m_orderWord : Nat) (a_m_isTwice : Nat) (a_m_actMany : Nat) (a_m_actKind : Nat) (a_m_actName : Nat) (a_m_actPlace : Nat) (a_m_actWord : Nat) (a_m_actTo : Nat) (a_m_actWait : Nat) (a_m_dim : Nat) (a_m_seenMinute : Nat) (a_m_seenTo : Nat) (a_m_seenFrom : Nat) (a_m_seenWord : Nat) (a_m_isLooked : Nat) (a_m_heardMinute : Nat) (a_m_heardFrom : Nat) (a_m_heardSent : Nat) (a_m_heardBy : Nat) (a_m_busy : Nat) (a_m_stopped : Nat) (a_m_did : Nat) (a_m_nearSure : Nat) (a_m_cost : Nat) (a_m_isDone : Nat) (a_m_came : Nat) (a_m_firstFrom : Nat) (a_m_wasThere : Nat) : (Unit) → va_W := (fun (u : Unit) => [(a_m, .inr (12, [.int v_m_thrown, .int (nI v_m_wide), .int (nI v_m_tall), .ref a_m_heights, .ref a_m_woods, .ref a_m_treesLow, .ref a_m_treesHigh, .int v_m_bend, .ref a_m_worst, .ref a_m_best, .int (nI v_m_posts), .ref a_m_px, .ref a_m_py, .ref a_m_towerLow, .ref a_m_towerHigh, .ref a_m_state, .ref a_m_men, .ref a_m_store, .int (nI v_m_notes), .ref a_m_noteSort, .ref a_m_noteA, .ref a_m_noteB, .ref a_m_isStruck, .ref a_m_least, .ref a_m_most, .int v_m_moved, .ref a_m_near, .int v_m_inLine, .int v_m_couldBe, .int v_m_isJoined, .ref a_m_rivals, .int (nI v_m_rivalMany), .int v_m_wereSupposed, .ref a_m_tape, .int (nI v_m_taped), .ref a_m_words, .ref a_m_wordName, .ref a_m_wordLong, .ref a_m_wordSigns, .ref a_m_likeMany, .ref a_m_likeA, .ref a_m_likeB, .ref a_m_minutes, .ref a_m_look, .ref a_m_orders, .ref a_m_orderPost, .ref a_m_orderName, .ref a_m_orderPlace, .ref a_m_orderWord, .ref a_m_isTwice, .ref a_m_actMany, .ref a_m_actKind, .ref a_m_actName, .ref a_m_actPlace, .ref a_m_actWord, .ref a_m_actTo, .ref a_m_actWait, .ref a_m_dim, .int (nI v_m_size), .int (nI v_m_at), .int (nI v_m_place), .int v_m_sort, .int v_m_value, .long v_m_name, .int v_m_toldMinutes, .int v_m_toldLook, .int v_m_fault, .int v_m_faultPlace, .int v_m_lastFault, .int v_m_lastPlace, .int v_m_isSent, .ref a_m_seenMinute, .ref a_m_seenTo, .ref a_m_seenFrom, .ref a_m_seenWord, .ref a_m_isLooked, .int (nI v_m_seen), .int v_m_isSpent, .ref a_m_heardMinute, .ref a_m_heardFrom, .ref a_m_heardSent, .ref a_m_heardBy, .ref a_m_busy, .ref a_m_stopped, .ref a_m_did, .ref a_m_nearSure, .int v_m_sentLast, .int v_m_sentOther, .int v_m_sentNone, .int v_m_sentOrders, .ref a_m_cost, .ref a_m_isDone, .int v_m_isSupplied, .ref a_m_ways, .ref a_m_came, .ref a_m_lacks, .ref a_m_firstFrom, .ref a_m_wasFound, .ref a_m_wasThere])), (a_m_store, .inl (K 0, 12, .inl f_m_store)), (a_m_ways, .inl (K 0, 144, .inl f_m_ways)), (a_m_lacks, .inl (K 0, 12, .inl f_m_lacks)), (a_m_wasFound, .inl (K 1, 12, .inl f_m_wasFound))])
set_option maxHeartbeats 4000000 in
set_option maxRecDepth 100000 in
theorem wX12_nextCarry_vc (l : Launch) (D : va_G) (K : Nat → ClassId) (sz : Nat) (a_m : Nat) (v_m_thrown : Int32) (v_m_wide : Nat) (v_m_tall : Nat) (v_m_bend : Int32) (v_m_posts : Nat) (v_m_notes : Nat) (v_m_moved : Int32) (v_m_inLine : Int32) (v_m_couldBe : Int32) (v_m_isJoined : Int32) (v_m_rivalMany : Nat) (v_m_wereSupposed : Int32) (v_m_taped : Nat) (v_m_size : Nat) (v_m_at : Nat) (v_m_place : Nat) (v_m_sort : Int32) (v_m_value : Int32) (v_m_name : Int64) (v_m_toldMinutes : Int32) (v_m_toldLook : Int32) (v_m_fault : Int32) (v_m_faultPlace : Int32) (v_m_lastFault : Int32) (v_m_lastPlace : Int32) (v_m_isSent : Int32) (v_m_seen : Nat) (v_m_isSpent : Int32) (v_m_sentLast : Int32) (v_m_sentOther : Int32) (v_m_sentNone : Int32) (v_m_sentOrders : Int32) (v_m_isSupplied : Int32) (a_m_store : Nat) (f_m_store : Nat → Int32) (a_m_ways : Nat) (f_m_ways : Nat → Int32) (a_m_lacks : Nat) (f_m_lacks : Nat → Int32) (a_m_wasFound : Nat) (f_m_wasFound : Nat → Int32) (a_m_heights : Nat) (a_m_woods : Nat) (a_m_treesLow : Nat) (a_m_treesHigh : Nat) (a_m_worst : Nat) (a_m_best : Nat) (a_m_px : Nat) (a_m_py : Nat) (a_m_towerLow : Nat) (a_m_towerHigh : Nat) (a_m_state : Nat) (a_m_men : Nat) (a_m_noteSort : Nat) (a_m_noteA : Nat) (a_m_noteB : Nat) (a_m_isStruck : Nat) (a_m_least : Nat) (a_m_most : Nat) (a_m_near : Nat) (a_m_rivals : Nat) (a_m_tape : Nat) (a_m_words : Nat) (a_m_wordName : Nat) (a_m_wordLong : Nat) (a_m_wordSigns : Nat) (a_m_likeMany : Nat) (a_m_likeA : Nat) (a_m_likeB : Nat) (a_m_minutes : Nat) (a_m_look : Nat) (a_m_orders : Nat) (a_m_orderPost : Nat) (a_m_orderName : Nat) (a_m_orderPlace : Nat) (a_m_orderWord : Nat) (a_m_isTwice : Nat) (a_m_actMany : Nat) (a_m_actKind : Nat) (a_m_actName : Nat) (a_m_actPlace : Nat) (a_m_actWord : Nat) (a_m_actTo : Nat) (a_m_actWait : Nat) (a_m_dim : Nat) (a_m_seenMinute : Nat) (a_m_seenTo : Nat) (a_m_seenFrom : Nat) (a_m_seenWord : Nat) (a_m_isLooked : Nat) (a_m_heardMinute : Nat) (a_m_heardFrom : Nat) (a_m_heardSent : Nat) (a_m_heardBy : Nat) (a_m_busy : Nat) (a_m_stopped : Nat) (a_m_did : Nat) (a_m_nearSure : Nat) (a_m_cost : Nat) (a_m_isDone : Nat) (a_m_came : Nat) (a_m_firstFrom : Nat) (a_m_wasThere : Nat) (hv_m_wide : v_m_wide ≤ 16) (gv_m_wide : 4 ≤ v_m_wide) (hv_m_tall : v_m_tall ≤ 16) (gv_m_tall : 4 ≤ v_m_tall) (hv_m_posts : v_m_posts ≤ 12) (hv_m_notes : v_m_notes ≤ 60) (hv_m_moved : v_m_moved = 0 ∨ v_m_moved = 1) (hv_m_isJoined : v_m_isJoined = 0 ∨ v_m_isJoined = 1) (hv_m_rivalMany : v_m_rivalMany ≤ 4096) (hv_m_taped : v_m_taped ≤ 1000) (hv_m_size : v_m_size ≤ 1000) (hv_m_at : v_m_at ≤ 1000) (hv_m_place : v_m_place ≤ 1000) (lv_m_sort : 0 ≤ v_m_sort) (uv_m_sort : v_m_sort ≤ 4) (lv_m_value : (-1) ≤ v_m_value) (uv_m_value : v_m_value ≤ 100000) (hv_m_toldMinutes : v_m_toldMinutes = 0 ∨ v_m_toldMinutes = 1) (hv_m_toldLook : v_m_toldLook = 0 ∨ v_m_toldLook = 1) (hv_m_isSent : v_m_isSent = 0 ∨ v_m_isSent = 1) (hv_m_seen : v_m_seen ≤ 200) (hv_m_isSpent : v_m_isSpent = 0 ∨ v_m_isSpent = 1) (hv_m_isSupplied : v_m_isSupplied = 0 ∨ v_m_isSupplied = 1) (r_m_store : uRg f_m_store 0 9999) (r_m_lacks : uRg f_m_lacks 0 4950) (b_m_wasFound : ∀ k, f_m_wasFound k = 0 ∨ f_m_wasFound k = 1) : uMi l yX12_nextCarry cX12_nextCarry 4 (some .int) { frames := 0, cells := 0, slots := 0, locals := 0 } [.ref a_m] D K [(a_m, .inr (12, [.int v_m_thrown, .int (nI v_m_wide), .int (nI v_m_tall), .ref a_m_heights, .ref a_m_woods, .ref a_m_treesLow, .ref a_m_treesHigh, .int v_m_bend, .ref a_m_worst, .ref a_m_best, .int (nI v_m_posts), .ref a_m_px, .ref a_m_py, .ref a_m_towerLow, .ref a_m_towerHigh, .ref a_m_state, .ref a_m_men, .ref a_m_store, .int (nI v_m_notes), .ref a_m_noteSort, .ref a_m_noteA, .ref a_m_noteB, .ref a_m_isStruck, .ref a_m_least, .ref a_m_most, .int v_m_moved, .ref a_m_near, .int v_m_inLine, .int v_m_couldBe, .int v_m_isJoined, .ref a_m_rivals, .int (nI v_m_rivalMany), .int v_m_wereSupposed, .ref a_m_tape, .int (nI v_m_taped), .ref a_m_words, .ref a_m_wordName, .ref a_m_wordLong, .ref a_m_wordSigns, .ref a_m_likeMany, .ref a_m_likeA, .ref a_m_likeB, .ref a_m_minutes, .ref a_m_look, .ref a_m_orders, .ref a_m_orderPost, .ref a_m_orderName, .ref a_m_orderPlace, .ref a_m_orderWord, .ref a_m_isTwice, .ref a_m_actMany, .ref a_m_actKind, .ref a_m_actName, .ref a_m_actPlace, .ref a_m_actWord, .ref a_m_actTo, .ref a_m_actWait, .ref a_m_dim, .int (nI v_m_size), .int (nI v_m_at), .int (nI v_m_place), .int v_m_sort, .int v_m_value, .long v_m_name, .int v_m_toldMinutes, .int v_m_toldLook, .int v_m_fault, .int v_m_faultPlace, .int v_m_lastFault, .int v_m_lastPlace, .int v_m_isSent, .ref a_m_seenMinute, .ref a_m_seenTo, .ref a_m_seenFrom, .ref a_m_seenWord, .ref a_m_isLooked, .int (nI v_m_seen), .int v_m_isSpent, .ref a_m_heardMinute, .ref a_m_heardFrom, .ref a_m_heardSent, .ref a_m_heardBy, .ref a_m_busy, .ref a_m_stopped, .ref a_m_did, .ref a_m_nearSure, .int v_m_sentLast, .int v_m_sentOther, .int v_m_sentNone, .int v_m_sentOrders, .ref a_m_cost, .ref a_m_isDone, .int v_m_isSupplied, .ref a_m_ways, .ref a_m_came, .ref a_m_lacks, .ref a_m_firstFrom, .ref a_m_wasFound, .ref a_m_wasThere])), (a_m_store, .inl (K 0, 12, .inl f_m_store)), (a_m_ways, .inl (K 0, 144, .inl f_m_ways)), (a_m_lacks, .inl (K 0, 12, .inl f_m_lacks)), (a_m_wasFound, .inl (K 1, 12, .inl f_m_wasFound))] sz (qwX12_nextCarry_vc a_m v_m_thrown v_m_wide v_m_tall v_m_bend v_m_posts v_m_notes v_m_moved v_m_inLine v_m_couldBe v_m_isJoined v_m_rivalMany v_m_wereSupposed v_m_taped v_m_size v_m_at v_m_place v_m_sort v_m_value v_m_name v_m_toldMinutes v_m_toldLook v_m_fault v_m_faultPlace v_m_lastFault v_m_lastPlace v_m_isSent v_m_seen v_m_isSpent v_m_sentLast v_m_sentOther v_m_sentNone v_m_sentOrders v_m_isSupplied a_m_store f_m_store a_m_ways f_m_ways a_m_lacks f_m_lacks a_m_wasFound f_m_wasFound a_m_heights a_m_woods a_m_treesLow a_m_treesHigh a_m_worst a_m_best a_m_px a_m_py a_m_towerLow a_m_towerHigh a_m_state a_m_men a_m_noteSort a_m_noteA a_m_noteB a_m_isStruck a_m_least a_m_most a_m_near a_m_rivals a_m_tape a_m_words a_m_wordName a_m_wordLong a_m_wordSigns a_m_likeMany a_m_likeA a_m_likeB a_m_minutes a_m_look a_m_orders a_m_orderPost a_m_orderName a_m_orderPlace a_m_orderWord a_m_isTwice a_m_actMany a_m_actKind a_m_actName a_m_actPlace a_m_actWord a_m_actTo a_m_actWait a_m_dim a_m_seenMinute a_m_seenTo a_m_seenFrom a_m_seenWord a_m_isLooked a_m_heardMinute a_m_heardFrom a_m_heardSent a_m_heardBy a_m_busy a_m_stopped a_m_did a_m_nearSure a_m_cost a_m_isDone a_m_came a_m_firstFrom a_m_wasThere) (vwX12_nextCarry_vc K a_m v_m_thrown v_m_wide v_m_tall v_m_bend v_m_posts v_m_notes v_m_moved v_m_inLine v_m_couldBe v_m_isJoined v_m_rivalMany v_m_wereSupposed v_m_taped v_m_size v_m_at v_m_place v_m_sort v_m_value v_m_name v_m_toldMinutes v_m_toldLook v_m_fault v_m_faultPlace v_m_lastFault v_m_lastPlace v_m_isSent v_m_seen v_m_isSpent v_m_sentLast v_m_sentOther v_m_sentNone v_m_sentOrders v_m_isSupplied a_m_store f_m_store a_m_ways f_m_ways a_m_lacks f_m_lacks a_m_wasFound f_m_wasFound a_m_heights a_m_woods a_m_treesLow a_m_treesHigh a_m_worst a_m_best a_m_px a_m_py a_m_towerLow a_m_towerHigh a_m_state a_m_men a_m_noteSort a_m_noteA a_m_noteB a_m_isStruck a_m_least a_m_most a_m_near a_m_rivals a_m_tape a_m_words a_m_wordName a_m_wordLong a_m_wordSigns a_m_likeMany a_m_likeA a_m_likeB a_m_minutes a_m_look a_m_orders a_m_orderPost a_m_orderName a_m_orderPlace a_m_orderWord a_m_isTwice a_m_actMany a_m_actKind a_m_actName a_m_actPlace a_m_actWord a_m_actTo a_m_actWait a_m_dim a_m_seenMinute a_m_seenTo a_m_seenFrom a_m_seenWord a_m_isLooked a_m_heardMinute a_m_heardFrom a_m_heardSent a_m_heardBy a_m_busy a_m_stopped a_m_did a_m_nearSure a_m_cost a_m_isDone a_m_came a_m_firstFrom a_m_wasThere) := by
  refine uMet (Qc := uQi D (qwX12_nextCarry_vc a_m v_m_thrown v_m_wide v_m_tall v_m_bend v_m_posts v_m_notes v_m_moved v_m_inLine v_m_couldBe v_m_isJoined v_m_rivalMany v_m_wereSupposed v_m_taped v_m_size v_m_at v_m_place v_m_sort v_m_value v_m_name v_m_toldMinutes v_m_toldLook v_m_fault v_m_faultPlace v_m_lastFault v_m_lastPlace v_m_isSent v_m_seen v_m_isSpent v_m_sentLast v_m_sentOther v_m_sentNone v_m_sentOrders v_m_isSupplied a_m_store f_m_store a_m_ways f_m_ways a_m_lacks f_m_lacks a_m_wasFound f_m_wasFound a_m_heights a_m_woods a_m_treesLow a_m_treesHigh a_m_worst a_m_best a_m_px a_m_py a_m_towerLow a_m_towerHigh a_m_state a_m_men a_m_noteSort a_m_noteA a_m_noteB a_m_isStruck a_m_least a_m_most a_m_near a_m_rivals a_m_tape a_m_words a_m_wordName a_m_wordLong a_m_wordSigns a_m_likeMany a_m_likeA a_m_likeB a_m_minutes a_m_look a_m_orders a_m_orderPost a_m_orderName a_m_orderPlace a_m_orderWord a_m_isTwice a_m_actMany a_m_actKind a_m_actName a_m_actPlace a_m_actWord a_m_actTo a_m_actWait a_m_dim a_m_seenMinute a_m_seenTo a_m_seenFrom a_m_seenWord a_m_isLooked a_m_heardMinute a_m_heardFrom a_m_heardSent a_m_heardBy a_m_busy a_m_stopped a_m_did a_m_nearSure a_m_cost a_m_isDone a_m_came a_m_firstFrom a_m_wasThere) (vwX12_nextCarry_vc K a_m v_m_thrown v_m_wide v_m_tall v_m_bend v_m_posts v_m_notes v_m_moved v_m_inLine v_m_couldBe v_m_isJoined v_m_rivalMany v_m_wereSupposed v_m_taped v_m_size v_m_at v_m_place v_m_sort v_m_value v_m_name v_m_toldMinutes v_m_toldLook v_m_fault v_m_faultPlace v_m_lastFault v_m_lastPlace v_m_isSent v_m_seen v_m_isSpent v_m_sentLast v_m_sentOther v_m_sentNone v_m_sentOrders v_m_isSupplied a_m_store f_m_store a_m_ways f_m_ways a_m_lacks f_m_lacks a_m_wasFound f_m_wasFound a_m_heights a_m_woods a_m_treesLow a_m_treesHigh a_m_worst a_m_best a_m_px a_m_py a_m_towerLow a_m_towerHigh a_m_state a_m_men a_m_noteSort a_m_noteA a_m_noteB a_m_isStruck a_m_least a_m_most a_m_near a_m_rivals a_m_tape a_m_words a_m_wordName a_m_wordLong a_m_wordSigns a_m_likeMany a_m_likeA a_m_likeB a_m_minutes a_m_look a_m_orders a_m_orderPost a_m_orderName a_m_orderPlace a_m_orderWord a_m_isTwice a_m_actMany a_m_actKind a_m_actName a_m_actPlace a_m_actWord a_m_actTo a_m_actWait a_m_dim a_m_seenMinute a_m_seenTo a_m_seenFrom a_m_seenWord a_m_isLooked a_m_heardMinute a_m_heardFrom a_m_heardSent a_m_heardBy a_m_busy a_m_stopped a_m_did a_m_nearSure a_m_cost a_m_isDone a_m_came a_m_firstFrom a_m_wasThere)) (ret := (some .int)) (by decide) (Nat.le_of_ble_eq_true rfl) ?_
  intro p e s m below meth c A ls hAe hsz B hP hD hS hl
  have hx := B.1
  have hb := B.2.1
  have hl : lv_has ls 4 [(0, .ref a_m)] := hl
  refine lv_iconst (v := (-1)) hx hb dX12_nextCarry_0 (by decide) ?_
  refine lv_istore_n (lv' := [(1, .int (-1)), (0, .ref a_m)]) hx hb dX12_nextCarry_1 rfl hl (by decide) rfl (fun ls hl => ?_)
  refine lv_iconst (v := 0) hx hb dX12_nextCarry_2 (by decide) ?_
  refine lv_istore_n (lv' := [(2, .int 0), (1, .int (-1)), (0, .ref a_m)]) hx hb dX12_nextCarry_3 rfl hl (by decide) rfl (fun ls hl => ?_)
  have L5 : ∀ (n9 : Nat) (j1 : Nat) (y2 : Int32), (j1 ≤ v_m_posts) → ((-1) ≤ y2) → (y2 ≤ 143) → (uwNq y2 (uwCd (fun pY => f_m_wasFound pY = 1) f_m_store f_m_lacks) (fun aY bY => f_m_ways (12 * aY + bY)) j1 0 v_m_posts) → v_m_posts - j1 < n9 → ∀ (H : Heap) (locs : List Loc) (ls : Array Slot), va_P D vwCl [(a_m, .inr (12, [.int v_m_thrown, .int (nI v_m_wide), .int (nI v_m_tall), .ref a_m_heights, .ref a_m_woods, .ref a_m_treesLow, .ref a_m_treesHigh, .int v_m_bend, .ref a_m_worst, .ref a_m_best, .int (nI v_m_posts), .ref a_m_px, .ref a_m_py, .ref a_m_towerLow, .ref a_m_towerHigh, .ref a_m_state, .ref a_m_men, .ref a_m_store, .int (nI v_m_notes), .ref a_m_noteSort, .ref a_m_noteA, .ref a_m_noteB, .ref a_m_isStruck, .ref a_m_least, .ref a_m_most, .int v_m_moved, .ref a_m_near, .int v_m_inLine, .int v_m_couldBe, .int v_m_isJoined, .ref a_m_rivals, .int (nI v_m_rivalMany), .int v_m_wereSupposed, .ref a_m_tape, .int (nI v_m_taped), .ref a_m_words, .ref a_m_wordName, .ref a_m_wordLong, .ref a_m_wordSigns, .ref a_m_likeMany, .ref a_m_likeA, .ref a_m_likeB, .ref a_m_minutes, .ref a_m_look, .ref a_m_orders, .ref a_m_orderPost, .ref a_m_orderName, .ref a_m_orderPlace, .ref a_m_orderWord, .ref a_m_isTwice, .ref a_m_actMany, .ref a_m_actKind, .ref a_m_actName, .ref a_m_actPlace, .ref a_m_actWord, .ref a_m_actTo, .ref a_m_actWait, .ref a_m_dim, .int (nI v_m_size), .int (nI v_m_at), .int (nI v_m_place), .int v_m_sort, .int v_m_value, .long v_m_name, .int v_m_toldMinutes, .int v_m_toldLook, .int v_m_fault, .int v_m_faultPlace, .int v_m_lastFault, .int v_m_lastPlace, .int v_m_isSent, .ref a_m_seenMinute, .ref a_m_seenTo, .ref a_m_seenFrom, .ref a_m_seenWord, .ref a_m_isLooked, .int (nI v_m_seen), .int v_m_isSpent, .ref a_m_heardMinute, .ref a_m_heardFrom, .ref a_m_heardSent, .ref a_m_heardBy, .ref a_m_busy, .ref a_m_stopped, .ref a_m_did, .ref a_m_nearSure, .int v_m_sentLast, .int v_m_sentOther, .int v_m_sentNone, .int v_m_sentOrders, .ref a_m_cost, .ref a_m_isDone, .int v_m_isSupplied, .ref a_m_ways, .ref a_m_came, .ref a_m_lacks, .ref a_m_firstFrom, .ref a_m_wasFound, .ref a_m_wasThere])), (a_m_store, .inl (K 0, 12, .inl f_m_store)), (a_m_ways, .inl (K 0, 144, .inl f_m_ways)), (a_m_lacks, .inl (K 0, 12, .inl f_m_lacks)), (a_m_wasFound, .inl (K 1, 12, .inl f_m_wasFound))] H → va_D A [(a_m, .inr (12, [.int v_m_thrown, .int (nI v_m_wide), .int (nI v_m_tall), .ref a_m_heights, .ref a_m_woods, .ref a_m_treesLow, .ref a_m_treesHigh, .int v_m_bend, .ref a_m_worst, .ref a_m_best, .int (nI v_m_posts), .ref a_m_px, .ref a_m_py, .ref a_m_towerLow, .ref a_m_towerHigh, .ref a_m_state, .ref a_m_men, .ref a_m_store, .int (nI v_m_notes), .ref a_m_noteSort, .ref a_m_noteA, .ref a_m_noteB, .ref a_m_isStruck, .ref a_m_least, .ref a_m_most, .int v_m_moved, .ref a_m_near, .int v_m_inLine, .int v_m_couldBe, .int v_m_isJoined, .ref a_m_rivals, .int (nI v_m_rivalMany), .int v_m_wereSupposed, .ref a_m_tape, .int (nI v_m_taped), .ref a_m_words, .ref a_m_wordName, .ref a_m_wordLong, .ref a_m_wordSigns, .ref a_m_likeMany, .ref a_m_likeA, .ref a_m_likeB, .ref a_m_minutes, .ref a_m_look, .ref a_m_orders, .ref a_m_orderPost, .ref a_m_orderName, .ref a_m_orderPlace, .ref a_m_orderWord, .ref a_m_isTwice, .ref a_m_actMany, .ref a_m_actKind, .ref a_m_actName, .ref a_m_actPlace, .ref a_m_actWord, .ref a_m_actTo, .ref a_m_actWait, .ref a_m_dim, .int (nI v_m_size), .int (nI v_m_at), .int (nI v_m_place), .int v_m_sort, .int v_m_value, .long v_m_name, .int v_m_toldMinutes, .int v_m_toldLook, .int v_m_fault, .int v_m_faultPlace, .int v_m_lastFault, .int v_m_lastPlace, .int v_m_isSent, .ref a_m_seenMinute, .ref a_m_seenTo, .ref a_m_seenFrom, .ref a_m_seenWord, .ref a_m_isLooked, .int (nI v_m_seen), .int v_m_isSpent, .ref a_m_heardMinute, .ref a_m_heardFrom, .ref a_m_heardSent, .ref a_m_heardBy, .ref a_m_busy, .ref a_m_stopped, .ref a_m_did, .ref a_m_nearSure, .int v_m_sentLast, .int v_m_sentOther, .int v_m_sentNone, .int v_m_sentOrders, .ref a_m_cost, .ref a_m_isDone, .int v_m_isSupplied, .ref a_m_ways, .ref a_m_came, .ref a_m_lacks, .ref a_m_firstFrom, .ref a_m_wasFound, .ref a_m_wasThere])), (a_m_store, .inl (K 0, 12, .inl f_m_store)), (a_m_ways, .inl (K 0, 144, .inl f_m_ways)), (a_m_lacks, .inl (K 0, 12, .inl f_m_lacks)), (a_m_wasFound, .inl (K 1, 12, .inl f_m_wasFound))] → va_S A s.heap H locs → lv_has ls 4 [(2, .int (nI j1)), (1, .int y2), (0, .ref a_m)] → W p l e { frames := 0, cells := 0, slots := 0, locals := 0 } s m ([.ref a_m] : List Value).toArray below meth c H locs 0 0 (MQ below (uQi D (qwX12_nextCarry_vc a_m v_m_thrown v_m_wide v_m_tall v_m_bend v_m_posts v_m_notes v_m_moved v_m_inLine v_m_couldBe v_m_isJoined v_m_rivalMany v_m_wereSupposed v_m_taped v_m_size v_m_at v_m_place v_m_sort v_m_value v_m_name v_m_toldMinutes v_m_toldLook v_m_fault v_m_faultPlace v_m_lastFault v_m_lastPlace v_m_isSent v_m_seen v_m_isSpent v_m_sentLast v_m_sentOther v_m_sentNone v_m_sentOrders v_m_isSupplied a_m_store f_m_store a_m_ways f_m_ways a_m_lacks f_m_lacks a_m_wasFound f_m_wasFound a_m_heights a_m_woods a_m_treesLow a_m_treesHigh a_m_worst a_m_best a_m_px a_m_py a_m_towerLow a_m_towerHigh a_m_state a_m_men a_m_noteSort a_m_noteA a_m_noteB a_m_isStruck a_m_least a_m_most a_m_near a_m_rivals a_m_tape a_m_words a_m_wordName a_m_wordLong a_m_wordSigns a_m_likeMany a_m_likeA a_m_likeB a_m_minutes a_m_look a_m_orders a_m_orderPost a_m_orderName a_m_orderPlace a_m_orderWord a_m_isTwice a_m_actMany a_m_actKind a_m_actName a_m_actPlace a_m_actWord a_m_actTo a_m_actWait a_m_dim a_m_seenMinute a_m_seenTo a_m_seenFrom a_m_seenWord a_m_isLooked a_m_heardMinute a_m_heardFrom a_m_heardSent a_m_heardBy a_m_busy a_m_stopped a_m_did a_m_nearSure a_m_cost a_m_isDone a_m_came a_m_firstFrom a_m_wasThere) (vwX12_nextCarry_vc K a_m v_m_thrown v_m_wide v_m_tall v_m_bend v_m_posts v_m_notes v_m_moved v_m_inLine v_m_couldBe v_m_isJoined v_m_rivalMany v_m_wereSupposed v_m_taped v_m_size v_m_at v_m_place v_m_sort v_m_value v_m_name v_m_toldMinutes v_m_toldLook v_m_fault v_m_faultPlace v_m_lastFault v_m_lastPlace v_m_isSent v_m_seen v_m_isSpent v_m_sentLast v_m_sentOther v_m_sentNone v_m_sentOrders v_m_isSupplied a_m_store f_m_store a_m_ways f_m_ways a_m_lacks f_m_lacks a_m_wasFound f_m_wasFound a_m_heights a_m_woods a_m_treesLow a_m_treesHigh a_m_worst a_m_best a_m_px a_m_py a_m_towerLow a_m_towerHigh a_m_state a_m_men a_m_noteSort a_m_noteA a_m_noteB a_m_isStruck a_m_least a_m_most a_m_near a_m_rivals a_m_tape a_m_words a_m_wordName a_m_wordLong a_m_wordSigns a_m_likeMany a_m_likeA a_m_likeB a_m_minutes a_m_look a_m_orders a_m_orderPost a_m_orderName a_m_orderPlace a_m_orderWord a_m_isTwice a_m_actMany a_m_actKind a_m_actName a_m_actPlace a_m_actWord a_m_actTo a_m_actWait a_m_dim a_m_seenMinute a_m_seenTo a_m_seenFrom a_m_seenWord a_m_isLooked a_m_heardMinute a_m_heardFrom a_m_heardSent a_m_heardBy a_m_busy a_m_stopped a_m_did a_m_nearSure a_m_cost a_m_isDone a_m_came a_m_firstFrom a_m_wasThere) A) ([.ref a_m] : List Value).toArray s 0 0 A) (F0 m 4 ls []) := by
    intro n9
    induction n9 with
    | zero => intros; exact absurd ‹_ < 0› (Nat.not_lt_zero _)
    | succ n4_ ih4 =>
      intro j1 y2 hj1 ly2 uy2 xo_3 hm4 H locs ls hP hD hS hl
      refine lv_iload_n hx hb dX12_nextCarry_4 rfl (lv_at hl 0 rfl) ?_
      refine lv_pc (q := 5) rfl ?_
      refine lv_aload_n hx hb dX12_nextCarry_5 rfl (lv_at hl 2 rfl) ?_
      refine uGet (ci := 12) (C := RX12) (T := TX12) (N := 99) (v := .int (nI v_m_posts)) B inlX12 hP 0 rfl rfl 10 rfl mfl_X12_227 rfl rfl dX12_nextCarry_6 ?_
      refine lv_icmp_ge (tgt := 105) hx hb dX12_nextCarry_9 (by decide) (fun c6 => ?_) (fun c6 => ?_)
      · have k_6 : v_m_posts ≤ j1 := (nI_leI (a := v_m_posts) (b := j1) (by omega) (by omega)).mp c6
        refine lv_iload_n hx hb dX12_nextCarry_105 rfl (lv_at hl 1 rfl) ?_
        exact uRi () B (uwNqE xo_3 (by omega)) (uSub hP [0, 1, 2, 3, 4] rfl) (hD.sub [0, 1, 2, 3, 4] rfl rfl) hS dX12_nextCarry_106
      have k_6 : ¬ v_m_posts ≤ j1 := fun h9 => c6 ((nI_leI (a := v_m_posts) (b := j1) (by omega) (by omega)).mpr h9)
      refine lv_iconst (v := 0) hx hb dX12_nextCarry_12 (by decide) ?_
      refine lv_istore_n (lv' := [(3, .int 0), (2, .int (nI j1)), (1, .int y2), (0, .ref a_m)]) hx hb dX12_nextCarry_13 rfl hl (by decide) rfl (fun ls hl => ?_)
      have L11 : ∀ (n9 : Nat) (j7 : Nat) (y8 : Int32), (j7 ≤ v_m_posts) → ((-1) ≤ y8) → (y8 ≤ 143) → (uwNq y8 (uwCd (fun pY => f_m_wasFound pY = 1) f_m_store f_m_lacks) (fun aY bY => f_m_ways (12 * aY + bY)) j1 j7 v_m_posts) → v_m_posts - j7 < n9 → ∀ (H : Heap) (locs : List Loc) (ls : Array Slot), va_P D vwCl [(a_m, .inr (12, [.int v_m_thrown, .int (nI v_m_wide), .int (nI v_m_tall), .ref a_m_heights, .ref a_m_woods, .ref a_m_treesLow, .ref a_m_treesHigh, .int v_m_bend, .ref a_m_worst, .ref a_m_best, .int (nI v_m_posts), .ref a_m_px, .ref a_m_py, .ref a_m_towerLow, .ref a_m_towerHigh, .ref a_m_state, .ref a_m_men, .ref a_m_store, .int (nI v_m_notes), .ref a_m_noteSort, .ref a_m_noteA, .ref a_m_noteB, .ref a_m_isStruck, .ref a_m_least, .ref a_m_most, .int v_m_moved, .ref a_m_near, .int v_m_inLine, .int v_m_couldBe, .int v_m_isJoined, .ref a_m_rivals, .int (nI v_m_rivalMany), .int v_m_wereSupposed, .ref a_m_tape, .int (nI v_m_taped), .ref a_m_words, .ref a_m_wordName, .ref a_m_wordLong, .ref a_m_wordSigns, .ref a_m_likeMany, .ref a_m_likeA, .ref a_m_likeB, .ref a_m_minutes, .ref a_m_look, .ref a_m_orders, .ref a_m_orderPost, .ref a_m_orderName, .ref a_m_orderPlace, .ref a_m_orderWord, .ref a_m_isTwice, .ref a_m_actMany, .ref a_m_actKind, .ref a_m_actName, .ref a_m_actPlace, .ref a_m_actWord, .ref a_m_actTo, .ref a_m_actWait, .ref a_m_dim, .int (nI v_m_size), .int (nI v_m_at), .int (nI v_m_place), .int v_m_sort, .int v_m_value, .long v_m_name, .int v_m_toldMinutes, .int v_m_toldLook, .int v_m_fault, .int v_m_faultPlace, .int v_m_lastFault, .int v_m_lastPlace, .int v_m_isSent, .ref a_m_seenMinute, .ref a_m_seenTo, .ref a_m_seenFrom, .ref a_m_seenWord, .ref a_m_isLooked, .int (nI v_m_seen), .int v_m_isSpent, .ref a_m_heardMinute, .ref a_m_heardFrom, .ref a_m_heardSent, .ref a_m_heardBy, .ref a_m_busy, .ref a_m_stopped, .ref a_m_did, .ref a_m_nearSure, .int v_m_sentLast, .int v_m_sentOther, .int v_m_sentNone, .int v_m_sentOrders, .ref a_m_cost, .ref a_m_isDone, .int v_m_isSupplied, .ref a_m_ways, .ref a_m_came, .ref a_m_lacks, .ref a_m_firstFrom, .ref a_m_wasFound, .ref a_m_wasThere])), (a_m_store, .inl (K 0, 12, .inl f_m_store)), (a_m_ways, .inl (K 0, 144, .inl f_m_ways)), (a_m_lacks, .inl (K 0, 12, .inl f_m_lacks)), (a_m_wasFound, .inl (K 1, 12, .inl f_m_wasFound))] H → va_D A [(a_m, .inr (12, [.int v_m_thrown, .int (nI v_m_wide), .int (nI v_m_tall), .ref a_m_heights, .ref a_m_woods, .ref a_m_treesLow, .ref a_m_treesHigh, .int v_m_bend, .ref a_m_worst, .ref a_m_best, .int (nI v_m_posts), .ref a_m_px, .ref a_m_py, .ref a_m_towerLow, .ref a_m_towerHigh, .ref a_m_state, .ref a_m_men, .ref a_m_store, .int (nI v_m_notes), .ref a_m_noteSort, .ref a_m_noteA, .ref a_m_noteB, .ref a_m_isStruck, .ref a_m_least, .ref a_m_most, .int v_m_moved, .ref a_m_near, .int v_m_inLine, .int v_m_couldBe, .int v_m_isJoined, .ref a_m_rivals, .int (nI v_m_rivalMany), .int v_m_wereSupposed, .ref a_m_tape, .int (nI v_m_taped), .ref a_m_words, .ref a_m_wordName, .ref a_m_wordLong, .ref a_m_wordSigns, .ref a_m_likeMany, .ref a_m_likeA, .ref a_m_likeB, .ref a_m_minutes, .ref a_m_look, .ref a_m_orders, .ref a_m_orderPost, .ref a_m_orderName, .ref a_m_orderPlace, .ref a_m_orderWord, .ref a_m_isTwice, .ref a_m_actMany, .ref a_m_actKind, .ref a_m_actName, .ref a_m_actPlace, .ref a_m_actWord, .ref a_m_actTo, .ref a_m_actWait, .ref a_m_dim, .int (nI v_m_size), .int (nI v_m_at), .int (nI v_m_place), .int v_m_sort, .int v_m_value, .long v_m_name, .int v_m_toldMinutes, .int v_m_toldLook, .int v_m_fault, .int v_m_faultPlace, .int v_m_lastFault, .int v_m_lastPlace, .int v_m_isSent, .ref a_m_seenMinute, .ref a_m_seenTo, .ref a_m_seenFrom, .ref a_m_seenWord, .ref a_m_isLooked, .int (nI v_m_seen), .int v_m_isSpent, .ref a_m_heardMinute, .ref a_m_heardFrom, .ref a_m_heardSent, .ref a_m_heardBy, .ref a_m_busy, .ref a_m_stopped, .ref a_m_did, .ref a_m_nearSure, .int v_m_sentLast, .int v_m_sentOther, .int v_m_sentNone, .int v_m_sentOrders, .ref a_m_cost, .ref a_m_isDone, .int v_m_isSupplied, .ref a_m_ways, .ref a_m_came, .ref a_m_lacks, .ref a_m_firstFrom, .ref a_m_wasFound, .ref a_m_wasThere])), (a_m_store, .inl (K 0, 12, .inl f_m_store)), (a_m_ways, .inl (K 0, 144, .inl f_m_ways)), (a_m_lacks, .inl (K 0, 12, .inl f_m_lacks)), (a_m_wasFound, .inl (K 1, 12, .inl f_m_wasFound))] → va_S A s.heap H locs → lv_has ls 4 [(3, .int (nI j7)), (2, .int (nI j1)), (1, .int y8), (0, .ref a_m)] → W p l e { frames := 0, cells := 0, slots := 0, locals := 0 } s m ([.ref a_m] : List Value).toArray below meth c H locs 0 0 (MQ below (uQi D (qwX12_nextCarry_vc a_m v_m_thrown v_m_wide v_m_tall v_m_bend v_m_posts v_m_notes v_m_moved v_m_inLine v_m_couldBe v_m_isJoined v_m_rivalMany v_m_wereSupposed v_m_taped v_m_size v_m_at v_m_place v_m_sort v_m_value v_m_name v_m_toldMinutes v_m_toldLook v_m_fault v_m_faultPlace v_m_lastFault v_m_lastPlace v_m_isSent v_m_seen v_m_isSpent v_m_sentLast v_m_sentOther v_m_sentNone v_m_sentOrders v_m_isSupplied a_m_store f_m_store a_m_ways f_m_ways a_m_lacks f_m_lacks a_m_wasFound f_m_wasFound a_m_heights a_m_woods a_m_treesLow a_m_treesHigh a_m_worst a_m_best a_m_px a_m_py a_m_towerLow a_m_towerHigh a_m_state a_m_men a_m_noteSort a_m_noteA a_m_noteB a_m_isStruck a_m_least a_m_most a_m_near a_m_rivals a_m_tape a_m_words a_m_wordName a_m_wordLong a_m_wordSigns a_m_likeMany a_m_likeA a_m_likeB a_m_minutes a_m_look a_m_orders a_m_orderPost a_m_orderName a_m_orderPlace a_m_orderWord a_m_isTwice a_m_actMany a_m_actKind a_m_actName a_m_actPlace a_m_actWord a_m_actTo a_m_actWait a_m_dim a_m_seenMinute a_m_seenTo a_m_seenFrom a_m_seenWord a_m_isLooked a_m_heardMinute a_m_heardFrom a_m_heardSent a_m_heardBy a_m_busy a_m_stopped a_m_did a_m_nearSure a_m_cost a_m_isDone a_m_came a_m_firstFrom a_m_wasThere) (vwX12_nextCarry_vc K a_m v_m_thrown v_m_wide v_m_tall v_m_bend v_m_posts v_m_notes v_m_moved v_m_inLine v_m_couldBe v_m_isJoined v_m_rivalMany v_m_wereSupposed v_m_taped v_m_size v_m_at v_m_place v_m_sort v_m_value v_m_name v_m_toldMinutes v_m_toldLook v_m_fault v_m_faultPlace v_m_lastFault v_m_lastPlace v_m_isSent v_m_seen v_m_isSpent v_m_sentLast v_m_sentOther v_m_sentNone v_m_sentOrders v_m_isSupplied a_m_store f_m_store a_m_ways f_m_ways a_m_lacks f_m_lacks a_m_wasFound f_m_wasFound a_m_heights a_m_woods a_m_treesLow a_m_treesHigh a_m_worst a_m_best a_m_px a_m_py a_m_towerLow a_m_towerHigh a_m_state a_m_men a_m_noteSort a_m_noteA a_m_noteB a_m_isStruck a_m_least a_m_most a_m_near a_m_rivals a_m_tape a_m_words a_m_wordName a_m_wordLong a_m_wordSigns a_m_likeMany a_m_likeA a_m_likeB a_m_minutes a_m_look a_m_orders a_m_orderPost a_m_orderName a_m_orderPlace a_m_orderWord a_m_isTwice a_m_actMany a_m_actKind a_m_actName a_m_actPlace a_m_actWord a_m_actTo a_m_actWait a_m_dim a_m_seenMinute a_m_seenTo a_m_seenFrom a_m_seenWord a_m_isLooked a_m_heardMinute a_m_heardFrom a_m_heardSent a_m_heardBy a_m_busy a_m_stopped a_m_did a_m_nearSure a_m_cost a_m_isDone a_m_came a_m_firstFrom a_m_wasThere) A) ([.ref a_m] : List Value).toArray s 0 0 A) (F0 m 14 ls []) := by
        intro n9
        induction n9 with
        | zero => intros; exact absurd ‹_ < 0› (Nat.not_lt_zero _)
        | succ n14_ ih14 =>
          intro j7 y8 hj7 ly8 uy8 xi_9 hm14 H locs ls hP hD hS hl
          refine lv_iload_n hx hb dX12_nextCarry_14 rfl (lv_at hl 0 rfl) ?_
          refine lv_pc (q := 15) rfl ?_
          refine lv_aload_n hx hb dX12_nextCarry_15 rfl (lv_at hl 3 rfl) ?_
          refine uGet (ci := 12) (C := RX12) (T := TX12) (N := 99) (v := .int (nI v_m_posts)) B inlX12 hP 0 rfl rfl 10 rfl mfl_X12_227 rfl rfl dX12_nextCarry_16 ?_
          refine lv_icmp_ge (tgt := 99) hx hb dX12_nextCarry_19 (by decide) (fun c12 => ?_) (fun c12 => ?_)
          · have k_12 : v_m_posts ≤ j7 := (nI_leI (a := v_m_posts) (b := j7) (by omega) (by omega)).mp c12
            refine lv_iinc (v := nI (j1 + 1)) (lv' := [(2, .int (nI (j1 + 1))), (3, .int (nI j7)), (1, .int y8), (0, .ref a_m)]) hx hb dX12_nextCarry_99 hl (k := 1) rfl (nI_1 _) (by decide) rfl (fun ls hl => ?_)
            refine lv_goto (tgt := 4) hx hb dX12_nextCarry_102 (by decide) ?_
            refine lv_pc (q := 4) rfl ?_
            refine W.widen (k := 0) (n := 0) (Nat.le_of_ble_eq_true rfl) (Nat.le_of_ble_eq_true rfl) ?_
            exact ih4 (j1 + 1) y8 (by omega) ly8 uy8 (uwNqR xi_9 (fun bY h8 h9 _ => absurd h9 (by omega))) (by omega) _ _ _ (uSub hP [0, 1, 2, 3, 4] rfl) (hD.sub [0, 1, 2, 3, 4] rfl rfl) hS (lv_sub hl [0, 2, 3] rfl)
          have k_12 : ¬ v_m_posts ≤ j7 := fun h9 => c12 ((nI_leI (a := v_m_posts) (b := j7) (by omega) (by omega)).mpr h9)
          refine lv_aload_n hx hb dX12_nextCarry_22 rfl (lv_at hl 3 rfl) ?_
          refine uGet (ci := 12) (C := RX12) (T := TX12) (N := 99) (v := .ref a_m_wasFound) B inlX12 hP 0 rfl rfl 97 rfl mfl_X12_214 rfl rfl dX12_nextCarry_23 ?_
          refine lv_iload_n hx hb dX12_nextCarry_26 rfl (lv_at hl 1 rfl) ?_
          refine lv_pc (q := 27) rfl ?_
          refine uZald (i := (nI j1)) (j := j1) B hP 4 rfl (nI_in (by omega) (by omega)) (nI_clamp (by omega)) dX12_nextCarry_27 ?_
          refine lv_if_eq (tgt := 93) hx hb dX12_nextCarry_28 (by decide) (fun c13 => ?_) (fun c13 => ?_)
          · refine lv_iinc (v := nI (j7 + 1)) (lv' := [(3, .int (nI (j7 + 1))), (2, .int (nI j1)), (1, .int y8), (0, .ref a_m)]) hx hb dX12_nextCarry_93 hl (k := 0) rfl (nI_1 _) (by decide) rfl (fun ls hl => ?_)
            refine lv_goto (tgt := 14) hx hb dX12_nextCarry_96 (by decide) ?_
            refine lv_pc (q := 14) rfl ?_
            refine W.widen (k := 0) (n := 0) (Nat.le_of_ble_eq_true rfl) (Nat.le_of_ble_eq_true rfl) ?_
            exact ih14 (j7 + 1) y8 (by omega) ly8 uy8 (uwNqN xi_9 (fun q9 => absurd (q9.1.1.symm.trans c13) (by decide))) (by omega) _ _ _ (uSub hP [0, 1, 2, 3, 4] rfl) (hD.sub [0, 1, 2, 3, 4] rfl rfl) hS (lv_sub hl [0, 1, 2, 3] rfl)
          refine lv_aload_n hx hb dX12_nextCarry_31 rfl (lv_at hl 3 rfl) ?_
          refine uGet (ci := 12) (C := RX12) (T := TX12) (N := 99) (v := .ref a_m_wasFound) B inlX12 hP 0 rfl rfl 97 rfl mfl_X12_214 rfl rfl dX12_nextCarry_32 ?_
          refine lv_iload_n hx hb dX12_nextCarry_35 rfl (lv_at hl 0 rfl) ?_
          refine uZald (i := (nI j7)) (j := j7) B hP 4 rfl (nI_in (by omega) (by omega)) (nI_clamp (by omega)) dX12_nextCarry_36 ?_
          refine lv_pc (q := 37) rfl ?_
          refine lv_if_eq (tgt := 93) hx hb dX12_nextCarry_37 (by decide) (fun c14 => ?_) (fun c14 => ?_)
          · refine lv_iinc (v := nI (j7 + 1)) (lv' := [(3, .int (nI (j7 + 1))), (2, .int (nI j1)), (1, .int y8), (0, .ref a_m)]) hx hb dX12_nextCarry_93 hl (k := 0) rfl (nI_1 _) (by decide) rfl (fun ls hl => ?_)
            refine lv_goto (tgt := 14) hx hb dX12_nextCarry_96 (by decide) ?_
            refine lv_pc (q := 14) rfl ?_
            refine W.widen (k := 0) (n := 0) (Nat.le_of_ble_eq_true rfl) (Nat.le_of_ble_eq_true rfl) ?_
            exact ih14 (j7 + 1) y8 (by omega) ly8 uy8 (uwNqN xi_9 (fun q9 => absurd (q9.2.1.symm.trans c14) (by decide))) (by omega) _ _ _ (uSub hP [0, 1, 2, 3, 4] rfl) (hD.sub [0, 1, 2, 3, 4] rfl rfl) hS (lv_sub hl [0, 1, 2, 3] rfl)
          refine lv_aload_n hx hb dX12_nextCarry_40 rfl (lv_at hl 3 rfl) ?_
          refine uGet (ci := 12) (C := RX12) (T := TX12) (N := 99) (v := .ref a_m_store) B inlX12 hP 0 rfl rfl 17 rfl mfl_X12_53 rfl rfl dX12_nextCarry_41 ?_
          refine lv_iload_n hx hb dX12_nextCarry_44 rfl (lv_at hl 1 rfl) ?_
          refine uIald (i := (nI j1)) (j := j1) B hP 1 rfl (nI_in (by omega) (by omega)) (nI_clamp (by omega)) dX12_nextCarry_45 ?_
          obtain ⟨a15, ha15, ea15⟩ := uRnat r_m_store j1 (by decide)
          simp only [Int32.reduceToInt] at ha15
          refine lv_fixi (y := (nI a15)) ea15 ?_
          refine lv_if_eq (tgt := 93) hx hb dX12_nextCarry_46 (by decide) (fun c16 => ?_) (fun c16 => ?_)
          · have k_16 : a15 = 0 := (nI_eq (a := a15) (b := 0) (by omega) (by omega)).mp c16
            refine lv_pc (q := 93) rfl ?_
            refine lv_iinc (v := nI (j7 + 1)) (lv' := [(3, .int (nI (j7 + 1))), (2, .int (nI j1)), (1, .int y8), (0, .ref a_m)]) hx hb dX12_nextCarry_93 hl (k := 0) rfl (nI_1 _) (by decide) rfl (fun ls hl => ?_)
            refine lv_goto (tgt := 14) hx hb dX12_nextCarry_96 (by decide) ?_
            refine lv_pc (q := 14) rfl ?_
            refine W.widen (k := 0) (n := 0) (Nat.le_of_ble_eq_true rfl) (Nat.le_of_ble_eq_true rfl) ?_
            exact ih14 (j7 + 1) y8 (by omega) ly8 uy8 (uwNqN xi_9 (fun q9 => q9.1.2 (ea15.trans c16))) (by omega) _ _ _ (uSub hP [0, 1, 2, 3, 4] rfl) (hD.sub [0, 1, 2, 3, 4] rfl rfl) hS (lv_sub hl [0, 1, 2, 3] rfl)
          have k_16 : ¬ a15 = 0 := fun h9 => c16 ((nI_eq (a := a15) (b := 0) (by omega) (by omega)).mpr h9)
          refine lv_pc (q := 49) rfl ?_
          refine lv_aload_n hx hb dX12_nextCarry_49 rfl (lv_at hl 3 rfl) ?_
          refine uGet (ci := 12) (C := RX12) (T := TX12) (N := 99) (v := .ref a_m_lacks) B inlX12 hP 0 rfl rfl 95 rfl mfl_X12_208 rfl rfl dX12_nextCarry_50 ?_
          refine lv_iload_n hx hb dX12_nextCarry_53 rfl (lv_at hl 0 rfl) ?_
          refine uIald (i := (nI j7)) (j := j7) B hP 3 rfl (nI_in (by omega) (by omega)) (nI_clamp (by omega)) dX12_nextCarry_54 ?_
          obtain ⟨a17, ha17, ea17⟩ := uRnat r_m_lacks j7 (by decide)
          simp only [Int32.reduceToInt] at ha17
          refine lv_fixi (y := (nI a17)) ea17 ?_
          refine lv_if_ne (tgt := 61) hx hb dX12_nextCarry_55 (by decide) (fun c18 => ?_) (fun c18 => ?_)
          · have k_18 : ¬ a17 = 0 := fun h9 => c18 ((nI_eq (a := a17) (b := 0) (by omega) (by omega)).mpr h9)
            refine lv_iload_n hx hb dX12_nextCarry_61 rfl (lv_at hl 2 rfl) ?_
            refine lv_pc (q := 62) rfl ?_
            refine lv_iconst (v := (-1)) hx hb dX12_nextCarry_62 (by decide) ?_
            refine lv_icmp_eq (tgt := 86) hx hb dX12_nextCarry_63 (by decide) (fun c19 => ?_) (fun c19 => ?_)
            · refine lv_bipush (v := 12) hx hb dX12_nextCarry_86 (by decide) ?_
              refine lv_iload_n hx hb dX12_nextCarry_88 rfl (lv_at hl 1 rfl) ?_
              refine lv_imul hx hb dX12_nextCarry_89 ?_
              refine lv_fixi (y := (nI (12 * j1))) (by rw [show (12 : Int32) = nI 12 from rfl, pk_mul]) ?_
              refine lv_iload_n hx hb dX12_nextCarry_90 rfl (lv_at hl 0 rfl) ?_
              refine lv_pc (q := 91) rfl ?_
              refine lv_iadd hx hb dX12_nextCarry_91 ?_
              refine lv_fixi (y := (nI ((12 * j1) + j7))) (by rw [nI_add]) ?_
              refine lv_istore_n (lv' := [(1, .int (nI ((12 * j1) + j7))), (3, .int (nI j7)), (2, .int (nI j1)), (0, .ref a_m)]) hx hb dX12_nextCarry_92 rfl hl (by decide) rfl (fun ls hl => ?_)
              refine lv_iinc (v := nI (j7 + 1)) (lv' := [(3, .int (nI (j7 + 1))), (1, .int (nI ((12 * j1) + j7))), (2, .int (nI j1)), (0, .ref a_m)]) hx hb dX12_nextCarry_93 hl (k := 1) rfl (nI_1 _) (by decide) rfl (fun ls hl => ?_)
              refine lv_goto (tgt := 14) hx hb dX12_nextCarry_96 (by decide) ?_
              refine lv_pc (q := 14) rfl ?_
              refine W.widen (k := 0) (n := 0) (Nat.le_of_ble_eq_true rfl) (Nat.le_of_ble_eq_true rfl) ?_
              exact ih14 (j7 + 1) (nI ((12 * j1) + j7)) (by omega) (uLoN (by simp only [Int32.reduceToInt]; omega) (by omega)) (uHiN (by simp only [Int32.reduceToInt]; omega) (by omega)) (uwNqc (show 12 * j1 + j7 = j1 * 12 + j7 by omega) (uwNqT xi_9 (by omega) (by omega) ⟨⟨(b_m_wasFound j1).resolve_left c13, fun q9 => c16 (ea15.symm.trans q9)⟩, (b_m_wasFound j7).resolve_left c14, fun q9 => c18 (ea17.symm.trans q9)⟩ (Or.inl c19) (by omega))) (by omega) _ _ _ (uSub hP [0, 1, 2, 3, 4] rfl) (hD.sub [0, 1, 2, 3, 4] rfl rfl) hS (lv_sub hl [0, 2, 1, 3] rfl)
            obtain ⟨a20, a21, ⟨ha20, ha21⟩, cda20, ea20⟩ := uwNqG xi_9 c19
            refine lv_aload_n hx hb dX12_nextCarry_66 rfl (lv_at hl 3 rfl) ?_
            refine uGet (ci := 12) (C := RX12) (T := TX12) (N := 99) (v := .ref a_m_ways) B inlX12 hP 0 rfl rfl 93 rfl mfl_X12_202 rfl rfl dX12_nextCarry_67 ?_
            refine lv_bipush (v := 12) hx hb dX12_nextCarry_70 (by decide) ?_
            refine lv_iload_n hx hb dX12_nextCarry_72 rfl (lv_at hl 1 rfl) ?_
            refine lv_pc (q := 73) rfl ?_
            refine lv_imul hx hb dX12_nextCarry_73 ?_
            refine lv_fixi (y := (nI (12 * j1))) (by rw [show (12 : Int32) = nI 12 from rfl, pk_mul]) ?_
            refine lv_iload_n hx hb dX12_nextCarry_74 rfl (lv_at hl 0 rfl) ?_
            refine lv_iadd hx hb dX12_nextCarry_75 ?_
            refine lv_fixi (y := (nI ((12 * j1) + j7))) (by rw [nI_add]) ?_
            refine uIald (i := (nI ((12 * j1) + j7))) (j := (12 * j1) + j7) B hP 2 rfl (nI_in (by omega) (by omega)) (nI_clamp (by omega)) dX12_nextCarry_76 ?_
            refine lv_aload_n hx hb dX12_nextCarry_77 rfl (lv_at hl 3 rfl) ?_
            refine uGet (ci := 12) (C := RX12) (T := TX12) (N := 99) (v := .ref a_m_ways) B inlX12 hP 0 rfl rfl 93 rfl mfl_X12_202 rfl rfl dX12_nextCarry_78 ?_
            refine lv_pc (q := 81) rfl ?_
            refine lv_iload_n hx hb dX12_nextCarry_81 rfl (lv_at hl 2 rfl) ?_
            refine lv_fixi (y := (nI (12 * a20 + a21))) (ea20.trans (congrArg nI (show a20 * 12 + a21 = 12 * a20 + a21 by omega))) ?_
            refine uIald (i := (nI (12 * a20 + a21))) (j := 12 * a20 + a21) B hP 2 rfl (nI_in (by omega) (by omega)) (nI_clamp (by omega)) dX12_nextCarry_82 ?_
            refine lv_icmp_ge (tgt := 93) hx hb dX12_nextCarry_83 (by decide) (fun c22 => ?_) (fun c22 => ?_)
            · refine lv_iinc (v := nI (j7 + 1)) (lv' := [(3, .int (nI (j7 + 1))), (2, .int (nI j1)), (1, .int y8), (0, .ref a_m)]) hx hb dX12_nextCarry_93 hl (k := 0) rfl (nI_1 _) (by decide) rfl (fun ls hl => ?_)
              refine lv_goto (tgt := 14) hx hb dX12_nextCarry_96 (by decide) ?_
              refine lv_pc (q := 14) rfl ?_
              refine W.widen (k := 0) (n := 0) (Nat.le_of_ble_eq_true rfl) (Nat.le_of_ble_eq_true rfl) ?_
              exact ih14 (j7 + 1) y8 (by omega) ly8 uy8 (uwNqk xi_9 ea20 (by omega) (by omega) (Int32.not_lt.mpr c22) (by omega)) (by omega) _ _ _ (uSub hP [0, 1, 2, 3, 4] rfl) (hD.sub [0, 1, 2, 3, 4] rfl rfl) hS (lv_sub hl [0, 1, 2, 3] rfl)
            refine lv_bipush (v := 12) hx hb dX12_nextCarry_86 (by decide) ?_
            refine lv_iload_n hx hb dX12_nextCarry_88 rfl (lv_at hl 1 rfl) ?_
            refine lv_imul hx hb dX12_nextCarry_89 ?_
            refine lv_fixi (y := (nI (12 * j1))) (by rw [show (12 : Int32) = nI 12 from rfl, pk_mul]) ?_
            refine lv_pc (q := 90) rfl ?_
            refine lv_iload_n hx hb dX12_nextCarry_90 rfl (lv_at hl 0 rfl) ?_
            refine lv_iadd hx hb dX12_nextCarry_91 ?_
            refine lv_fixi (y := (nI ((12 * j1) + j7))) (by rw [nI_add]) ?_
            refine lv_istore_n (lv' := [(1, .int (nI ((12 * j1) + j7))), (3, .int (nI j7)), (2, .int (nI j1)), (0, .ref a_m)]) hx hb dX12_nextCarry_92 rfl hl (by decide) rfl (fun ls hl => ?_)
            refine lv_iinc (v := nI (j7 + 1)) (lv' := [(3, .int (nI (j7 + 1))), (1, .int (nI ((12 * j1) + j7))), (2, .int (nI j1)), (0, .ref a_m)]) hx hb dX12_nextCarry_93 hl (k := 1) rfl (nI_1 _) (by decide) rfl (fun ls hl => ?_)
            refine lv_goto (tgt := 14) hx hb dX12_nextCarry_96 (by decide) ?_
            refine lv_pc (q := 14) rfl ?_
            refine W.widen (k := 0) (n := 0) (Nat.le_of_ble_eq_true rfl) (Nat.le_of_ble_eq_true rfl) ?_
            exact ih14 (j7 + 1) (nI ((12 * j1) + j7)) (by omega) (uLoN (by simp only [Int32.reduceToInt]; omega) (by omega)) (uHiN (by simp only [Int32.reduceToInt]; omega) (by omega)) (uwNqc (show 12 * j1 + j7 = j1 * 12 + j7 by omega) (uwNqT xi_9 (by omega) (by omega) ⟨⟨(b_m_wasFound j1).resolve_left c13, fun q9 => c16 (ea15.symm.trans q9)⟩, (b_m_wasFound j7).resolve_left c14, fun q9 => c18 (ea17.symm.trans q9)⟩ (Or.inr ⟨a20, a21, ⟨by omega, by omega⟩, ea20, Int32.not_le.mp c22⟩) (by omega))) (by omega) _ _ _ (uSub hP [0, 1, 2, 3, 4] rfl) (hD.sub [0, 1, 2, 3, 4] rfl rfl) hS (lv_sub hl [0, 2, 1, 3] rfl)
          have k_18 : a17 = 0 := (nI_eq (a := a17) (b := 0) (by omega) (by omega)).mp c18
          refine lv_goto (tgt := 93) hx hb dX12_nextCarry_58 (by decide) ?_
          refine lv_pc (q := 93) rfl ?_
          refine lv_iinc (v := nI (j7 + 1)) (lv' := [(3, .int (nI (j7 + 1))), (2, .int (nI j1)), (1, .int y8), (0, .ref a_m)]) hx hb dX12_nextCarry_93 hl (k := 0) rfl (nI_1 _) (by decide) rfl (fun ls hl => ?_)
          refine lv_goto (tgt := 14) hx hb dX12_nextCarry_96 (by decide) ?_
          refine lv_pc (q := 14) rfl ?_
          refine W.widen (k := 0) (n := 0) (Nat.le_of_ble_eq_true rfl) (Nat.le_of_ble_eq_true rfl) ?_
          exact ih14 (j7 + 1) y8 (by omega) ly8 uy8 (uwNqN xi_9 (fun q9 => q9.2.2 (ea17.trans c18))) (by omega) _ _ _ (uSub hP [0, 1, 2, 3, 4] rfl) (hD.sub [0, 1, 2, 3, 4] rfl rfl) hS (lv_sub hl [0, 1, 2, 3] rfl)
      refine lv_pc (q := 14) rfl ?_
      refine W.widen (k := 0) (n := 0) (Nat.le_of_ble_eq_true rfl) (Nat.le_of_ble_eq_true rfl) ?_
      exact L11 ((v_m_posts - 0) + 1) 0 y2 (by omega) ly2 uy2 xo_3 (Nat.lt_succ_self _) _ _ _ hP hD hS hl
  refine lv_pc (q := 4) rfl ?_
  refine W.widen (k := 0) (n := 0) (Nat.le_of_ble_eq_true rfl) (Nat.le_of_ble_eq_true rfl) ?_
  exact L5 ((v_m_posts - 0) + 1) 0 (-1) (by omega) (by (try dsimp only); decide) (by (try dsimp only); decide) uwNq0 (Nat.lt_succ_self _) _ _ _ hP hD hS hl
def qwX11_supply_vc (a_D : Nat) (a_T : Nat) (v_T_width : Nat) (v_T_height : Nat) (v_T_bending : Int32) (a_T_heights : Nat) (f_T_heights : Nat → Int32) (a_T_woods : Nat) (f_T_woods : Nat → Int32) (a_P : Nat) (v_P_size : Nat) (a_P_xs : Nat) (f_P_xs : Nat → Int32) (a_P_ys : Nat) (f_P_ys : Nat → Int32) (a_P_cells : Nat) (f_P_cells : Nat → Int32) (a_P_lows : Nat) (f_P_lows : Nat → Int32) (a_P_highs : Nat) (f_P_highs : Nat → Int32) (a_P_states : Nat) (f_P_states : Nat → Int32) (a_P_men : Nat) (f_P_men : Nat → Int32) (a_P_stores : Nat) (f_P_stores : Nat → Int32) (a_C : Nat) (v_C_postsThen : Nat) (a_C_measured : Nat) (f_C_measured : Nat → Int32) (a_C_statesThen : Nat) (f_C_statesThen : Nat → Int32) (a_C_came : Nat) (f_C_came : Nat → Int32) (a_C_lacks : Nat) (f_C_lacks : Nat → Int32) (a_C_firstFrom : Nat) (f_C_firstFrom : Nat → Int32) (a_C_costs : Nat) (f_C_costs : Nat → Option Nat) (a_C_c0 : Nat) (f_C_c0 : Nat → Int32) (a_C_c1 : Nat) (f_C_c1 : Nat → Int32) (a_C_c2 : Nat) (f_C_c2 : Nat → Int32) (a_C_c3 : Nat) (f_C_c3 : Nat → Int32) (a_C_c4 : Nat) (f_C_c4 : Nat → Int32) (a_C_c5 : Nat) (f_C_c5 : Nat → Int32) (a_C_c6 : Nat) (f_C_c6 : Nat → Int32) (a_C_c7 : Nat) (f_C_c7 : Nat → Int32) (a_C_c8 : Nat) (f_C_c8 : Nat → Int32) (a_C_c9 : Nat) (f_C_c9 : Nat → Int32) (a_C_c10 : Nat) (f_C_c10 : Nat → Int32) (a_C_c11 : Nat) (f_C_c11 : Nat → Int32) (a_S : Nat) (a_N : Nat) (a_L : Nat) (a_V : Nat) (a_K : Nat) (a_E : Nat) (a_M : Nat) (a_RA : Nat) (a_T_treesLow : Nat) (a_T_treesHigh : Nat) (a_T_worst : Nat) (a_T_best : Nat) (x0 : Int32) : Int32 → ((Nat → Int32) × Nat × (Nat → Int32) × (Nat → Int32) × (Nat → Int32) × (Nat → Int32) × (Nat → Int32) × (Nat → Int32) × (Nat → Int32) × (Nat → Int32) × (Nat → Int32) × (Nat → Int32) × (Nat → Int32) × (Nat → Int32) × (Nat → Int32) × (Nat → Int32) × (Nat → Int32) × (Nat → Int32) × (Nat → Int32)) → Prop := (fun (r : Int32) (u : (Nat → Int32) × Nat × (Nat → Int32) × (Nat → Int32) × (Nat → Int32) × (Nat → Int32) × (Nat → Int32) × (Nat → Int32) × (Nat → Int32) × (Nat → Int32) × (Nat → Int32) × (Nat → Int32) × (Nat → Int32) × (Nat → Int32) × (Nat → Int32) × (Nat → Int32) × (Nat → Int32) × (Nat → Int32) × (Nat → Int32)) => uwSu (uwSp x0) v_T_width v_T_height (uwst (uwg f_T_heights) (uwg f_T_woods)) v_P_size (fun pY => f_P_states pY = 0) f_P_xs f_P_ys f_P_states f_P_men f_P_stores (uN x0) u.1 r ∧ (u.2.1 ≤ 12) ∧ (∀ k, u.2.2.1 k = 0 ∨ u.2.2.1 k = 1) ∧ (uwCc f_T_heights f_T_woods v_T_width v_T_height v_P_size f_P_xs f_P_ys u.2.2.1 [u.2.2.2.2.2.2.2.1, u.2.2.2.2.2.2.2.2.1, u.2.2.2.2.2.2.2.2.2.1, u.2.2.2.2.2.2.2.2.2.2.1, u.2.2.2.2.2.2.2.2.2.2.2.1, u.2.2.2.2.2.2.2.2.2.2.2.2.1, u.2.2.2.2.2.2.2.2.2.2.2.2.2.1, u.2.2.2.2.2.2.2.2.2.2.2.2.2.2.1, u.2.2.2.2.2.2.2.2.2.2.2.2.2.2.2.1, u.2.2.2.2.2.2.2.2.2.2.2.2.2.2.2.2.1, u.2.2.2.2.2.2.2.2.2.2.2.2.2.2.2.2.2.1, u.2.2.2.2.2.2.2.2.2.2.2.2.2.2.2.2.2.2]))
def vwX11_supply_vc (K : Nat → ClassId) (a_D : Nat) (a_T : Nat) (v_T_width : Nat) (v_T_height : Nat) (v_T_bending : Int32) (a_T_heights : Nat) (f_T_heights : Nat → Int32) (a_T_woods : Nat) (f_T_woods : Nat → Int32) (a_P : Nat) (v_P_size : Nat) (a_P_xs : Nat) (f_P_xs : Nat → Int32) (a_P_ys : Nat) (f_P_ys : Nat → Int32) (a_P_cells : Nat) (f_P_cells : Nat → Int32) (a_P_lows : Nat) (f_P_lows : Nat → Int32) (a_P_highs : Nat) (f_P_highs : Nat → Int32) (a_P_states : Nat) (f_P_states : Nat → Int32) (a_P_men : Nat) (f_P_men : Nat → Int32) (a_P_stores : Nat) (f_P_stores : Nat → Int32) (a_C : Nat) (v_C_postsThen : Nat) (a_C_measured : Nat) (f_C_measured : Nat → Int32) (a_C_statesThen : Nat) (f_C_statesThen : Nat → Int32) (a_C_came : Nat) (f_C_came : Nat → Int32) (a_C_lacks : Nat) (f_C_lacks : Nat → Int32) (a_C_firstFrom : Nat) (f_C_firstFrom : Nat → Int32) (a_C_costs : Nat) (f_C_costs : Nat → Option Nat) (a_C_c0 : Nat) (f_C_c0 : Nat → Int32) (a_C_c1 : Nat) (f_C_c1 : Nat → Int32) (a_C_c2 : Nat) (f_C_c2 : Nat → Int32) (a_C_c3 : Nat) (f_C_c3 : Nat → Int32) (a_C_c4 : Nat) (f_C_c4 : Nat → Int32) (a_C_c5 : Nat) (f_C_c5 : Nat → Int32) (a_C_c6 : Nat) (f_C_c6 : Nat → Int32) (a_C_c7 : Nat) (f_C_c7 : Nat → Int32) (a_C_c8 : Nat) (f_C_c8 : Nat → Int32) (a_C_c9 : Nat) (f_C_c9 : Nat → Int32) (a_C_c10 : Nat) (f_C_c10 : Nat → Int32) (a_C_c11 : Nat) (f_C_c11 : Nat → Int32) (a_S : Nat) (a_N : Nat) (a_L : Nat) (a_V : Nat) (a_K : Nat) (a_E : Nat) (a_M : Nat) (a_RA : Nat) (a_T_treesLow : Nat) (a_T_treesHigh : Nat) (a_T_worst : Nat) (a_T_best : Nat) (x0 : Int32) : ((Nat → Int32) × Nat × (Nat → Int32) × (Nat → Int32) × (Nat → Int32) × (Nat → Int32) × (Nat → Int32) × (Nat → Int32) × (Nat → Int32) × (Nat → Int32) × (Nat → Int32) × (Nat → Int32) × (Nat → Int32) × (Nat → Int32) × (Nat → Int32) × (Nat → Int32) × (Nat → Int32) × (Nat → Int32) × (Nat → Int32)) → va_W := (fun (u : (Nat → Int32) × Nat × (Nat → Int32) × (Nat → Int32) × (Nat → Int32) × (Nat → Int32) × (Nat → Int32) × (Nat → Int32) × (Nat → Int32) × (Nat → Int32) × (Nat → Int32) × (Nat → Int32) × (Nat → Int32) × (Nat → Int32) × (Nat → Int32) × (Nat → Int32) × (Nat → Int32) × (Nat → Int32) × (Nat → Int32)) => [(a_D, .inr (11, [.ref a_T, .ref a_P, .ref a_S, .ref a_N, .ref a_L, .ref a_V, .ref a_K, .ref a_E, .ref a_M, .ref a_C, .ref a_RA])), (a_T, .inr (9, [.ref a_T_heights, .ref a_T_woods, .ref a_T_treesLow, .ref a_T_treesHigh, .ref a_T_worst, .ref a_T_best, .int (nI v_T_width), .int (nI v_T_height), .int v_T_bending])), (a_T_heights, .inl (K 0, 256, .inl f_T_heights)), (a_T_woods, .inl (K 0, 256, .inl f_T_woods)), (a_P, .inr (4, [.ref a_T, .ref a_P_xs, .ref a_P_ys, .ref a_P_cells, .ref a_P_lows, .ref a_P_highs, .ref a_P_states, .ref a_P_men, .ref a_P_stores, .int (nI v_P_size)])), (a_P_xs, .inl (K 0, 12, .inl f_P_xs)), (a_P_ys, .inl (K 0, 12, .inl f_P_ys)), (a_P_cells, .inl (K 0, 12, .inl f_P_cells)), (a_P_lows, .inl (K 0, 12, .inl f_P_lows)), (a_P_highs, .inl (K 0, 12, .inl f_P_highs)), (a_P_states, .inl (K 0, 12, .inl f_P_states)), (a_P_men, .inl (K 0, 12, .inl f_P_men)), (a_P_stores, .inl (K 0, 12, .inl (u.1))), (a_C, .inr (0, [.ref a_T, .ref a_P, .ref a_C_costs, .ref a_C_measured, .ref a_C_statesThen, .ref a_C_came, .ref a_C_lacks, .ref a_C_firstFrom, .int (nI ((u.2.1)))])), (a_C_measured, .inl (K 1, 12, .inl (u.2.2.1))), (a_C_statesThen, .inl (K 0, 12, .inl (u.2.2.2.1))), (a_C_came, .inl (K 0, 12, .inl (u.2.2.2.2.1))), (a_C_lacks, .inl (K 0, 12, .inl (u.2.2.2.2.2.1))), (a_C_firstFrom, .inl (K 0, 12, .inl (u.2.2.2.2.2.2.1))), (a_C_costs, .inl (K 3, 12, .inr (.inr (.inr (.inr f_C_costs))))), (a_C_c0, .inl (K 0, 256, .inl (u.2.2.2.2.2.2.2.1))), (a_C_c1, .inl (K 0, 256, .inl (u.2.2.2.2.2.2.2.2.1))), (a_C_c2, .inl (K 0, 256, .inl (u.2.2.2.2.2.2.2.2.2.1))), (a_C_c3, .inl (K 0, 256, .inl (u.2.2.2.2.2.2.2.2.2.2.1))), (a_C_c4, .inl (K 0, 256, .inl (u.2.2.2.2.2.2.2.2.2.2.2.1))), (a_C_c5, .inl (K 0, 256, .inl (u.2.2.2.2.2.2.2.2.2.2.2.2.1))), (a_C_c6, .inl (K 0, 256, .inl (u.2.2.2.2.2.2.2.2.2.2.2.2.2.1))), (a_C_c7, .inl (K 0, 256, .inl (u.2.2.2.2.2.2.2.2.2.2.2.2.2.2.1))), (a_C_c8, .inl (K 0, 256, .inl (u.2.2.2.2.2.2.2.2.2.2.2.2.2.2.2.1))), (a_C_c9, .inl (K 0, 256, .inl (u.2.2.2.2.2.2.2.2.2.2.2.2.2.2.2.2.1))), (a_C_c10, .inl (K 0, 256, .inl (u.2.2.2.2.2.2.2.2.2.2.2.2.2.2.2.2.2.1))), (a_C_c11, .inl (K 0, 256, .inl (u.2.2.2.2.2.2.2.2.2.2.2.2.2.2.2.2.2.2)))])
set_option maxHeartbeats 4000000 in
set_option maxRecDepth 100000 in
theorem wX11_supply_vc (l : Launch) (D : va_G) (K : Nat → ClassId) (sz : Nat) (a_D : Nat) (a_T : Nat) (v_T_width : Nat) (v_T_height : Nat) (v_T_bending : Int32) (a_T_heights : Nat) (f_T_heights : Nat → Int32) (a_T_woods : Nat) (f_T_woods : Nat → Int32) (a_P : Nat) (v_P_size : Nat) (a_P_xs : Nat) (f_P_xs : Nat → Int32) (a_P_ys : Nat) (f_P_ys : Nat → Int32) (a_P_cells : Nat) (f_P_cells : Nat → Int32) (a_P_lows : Nat) (f_P_lows : Nat → Int32) (a_P_highs : Nat) (f_P_highs : Nat → Int32) (a_P_states : Nat) (f_P_states : Nat → Int32) (a_P_men : Nat) (f_P_men : Nat → Int32) (a_P_stores : Nat) (f_P_stores : Nat → Int32) (a_C : Nat) (v_C_postsThen : Nat) (a_C_measured : Nat) (f_C_measured : Nat → Int32) (a_C_statesThen : Nat) (f_C_statesThen : Nat → Int32) (a_C_came : Nat) (f_C_came : Nat → Int32) (a_C_lacks : Nat) (f_C_lacks : Nat → Int32) (a_C_firstFrom : Nat) (f_C_firstFrom : Nat → Int32) (a_C_costs : Nat) (f_C_costs : Nat → Option Nat) (a_C_c0 : Nat) (f_C_c0 : Nat → Int32) (a_C_c1 : Nat) (f_C_c1 : Nat → Int32) (a_C_c2 : Nat) (f_C_c2 : Nat → Int32) (a_C_c3 : Nat) (f_C_c3 : Nat → Int32) (a_C_c4 : Nat) (f_C_c4 : Nat → Int32) (a_C_c5 : Nat) (f_C_c5 : Nat → Int32) (a_C_c6 : Nat) (f_C_c6 : Nat → Int32) (a_C_c7 : Nat) (f_C_c7 : Nat → Int32) (a_C_c8 : Nat) (f_C_c8 : Nat → Int32) (a_C_c9 : Nat) (f_C_c9 : Nat → Int32) (a_C_c10 : Nat) (f_C_c10 : Nat → Int32) (a_C_c11 : Nat) (f_C_c11 : Nat → Int32) (a_S : Nat) (a_N : Nat) (a_L : Nat) (a_V : Nat) (a_K : Nat) (a_E : Nat) (a_M : Nat) (a_RA : Nat) (a_T_treesLow : Nat) (a_T_treesHigh : Nat) (a_T_worst : Nat) (a_T_best : Nat) (x0 : Int32) (hv_T_width : v_T_width ≤ 16) (gv_T_width : 4 ≤ v_T_width) (hv_T_height : v_T_height ≤ 16) (gv_T_height : 4 ≤ v_T_height) (r_T_woods : uRg f_T_woods 0 3) (hv_P_size : v_P_size ≤ 12) (r_P_xs : uRg f_P_xs 0 15) (r_P_ys : uRg f_P_ys 0 15) (r_P_cells : uRg f_P_cells 0 255) (hv_C_postsThen : v_C_postsThen ≤ 12) (b_C_measured : ∀ k, f_C_measured k = 0 ∨ f_C_measured k = 1) (k_C_costs_0 : f_C_costs 0 = some a_C_c0) (k_C_costs_1 : f_C_costs 1 = some a_C_c1) (k_C_costs_2 : f_C_costs 2 = some a_C_c2) (k_C_costs_3 : f_C_costs 3 = some a_C_c3) (k_C_costs_4 : f_C_costs 4 = some a_C_c4) (k_C_costs_5 : f_C_costs 5 = some a_C_c5) (k_C_costs_6 : f_C_costs 6 = some a_C_c6) (k_C_costs_7 : f_C_costs 7 = some a_C_c7) (k_C_costs_8 : f_C_costs 8 = some a_C_c8) (k_C_costs_9 : f_C_costs 9 = some a_C_c9) (k_C_costs_10 : f_C_costs 10 = some a_C_c10) (k_C_costs_11 : f_C_costs 11 = some a_C_c11) (i_uwHt : uwHt f_T_heights v_T_width v_T_height) (i_uwPo : uPo f_P_xs f_P_ys f_P_cells f_P_lows f_P_highs v_P_size v_T_width v_T_height) (i_uwCc : uwCc f_T_heights f_T_woods v_T_width v_T_height v_P_size f_P_xs f_P_ys f_C_measured [f_C_c0, f_C_c1, f_C_c2, f_C_c3, f_C_c4, f_C_c5, f_C_c6, f_C_c7, f_C_c8, f_C_c9, f_C_c10, f_C_c11]) (i_uwSn : uwNn f_P_stores 9999 v_P_size) (i_uwMn : uwNn f_P_men 50 v_P_size) : uMi l yX11_supply cX11_supply 2 (some .int) { frames := 6, cells := 0, slots := 0, locals := 147 } [.ref a_D, .int x0] D K [(a_D, .inr (11, [.ref a_T, .ref a_P, .ref a_S, .ref a_N, .ref a_L, .ref a_V, .ref a_K, .ref a_E, .ref a_M, .ref a_C, .ref a_RA])), (a_T, .inr (9, [.ref a_T_heights, .ref a_T_woods, .ref a_T_treesLow, .ref a_T_treesHigh, .ref a_T_worst, .ref a_T_best, .int (nI v_T_width), .int (nI v_T_height), .int v_T_bending])), (a_T_heights, .inl (K 0, 256, .inl f_T_heights)), (a_T_woods, .inl (K 0, 256, .inl f_T_woods)), (a_P, .inr (4, [.ref a_T, .ref a_P_xs, .ref a_P_ys, .ref a_P_cells, .ref a_P_lows, .ref a_P_highs, .ref a_P_states, .ref a_P_men, .ref a_P_stores, .int (nI v_P_size)])), (a_P_xs, .inl (K 0, 12, .inl f_P_xs)), (a_P_ys, .inl (K 0, 12, .inl f_P_ys)), (a_P_cells, .inl (K 0, 12, .inl f_P_cells)), (a_P_lows, .inl (K 0, 12, .inl f_P_lows)), (a_P_highs, .inl (K 0, 12, .inl f_P_highs)), (a_P_states, .inl (K 0, 12, .inl f_P_states)), (a_P_men, .inl (K 0, 12, .inl f_P_men)), (a_P_stores, .inl (K 0, 12, .inl f_P_stores)), (a_C, .inr (0, [.ref a_T, .ref a_P, .ref a_C_costs, .ref a_C_measured, .ref a_C_statesThen, .ref a_C_came, .ref a_C_lacks, .ref a_C_firstFrom, .int (nI v_C_postsThen)])), (a_C_measured, .inl (K 1, 12, .inl f_C_measured)), (a_C_statesThen, .inl (K 0, 12, .inl f_C_statesThen)), (a_C_came, .inl (K 0, 12, .inl f_C_came)), (a_C_lacks, .inl (K 0, 12, .inl f_C_lacks)), (a_C_firstFrom, .inl (K 0, 12, .inl f_C_firstFrom)), (a_C_costs, .inl (K 3, 12, .inr (.inr (.inr (.inr f_C_costs))))), (a_C_c0, .inl (K 0, 256, .inl f_C_c0)), (a_C_c1, .inl (K 0, 256, .inl f_C_c1)), (a_C_c2, .inl (K 0, 256, .inl f_C_c2)), (a_C_c3, .inl (K 0, 256, .inl f_C_c3)), (a_C_c4, .inl (K 0, 256, .inl f_C_c4)), (a_C_c5, .inl (K 0, 256, .inl f_C_c5)), (a_C_c6, .inl (K 0, 256, .inl f_C_c6)), (a_C_c7, .inl (K 0, 256, .inl f_C_c7)), (a_C_c8, .inl (K 0, 256, .inl f_C_c8)), (a_C_c9, .inl (K 0, 256, .inl f_C_c9)), (a_C_c10, .inl (K 0, 256, .inl f_C_c10)), (a_C_c11, .inl (K 0, 256, .inl f_C_c11))] sz (qwX11_supply_vc a_D a_T v_T_width v_T_height v_T_bending a_T_heights f_T_heights a_T_woods f_T_woods a_P v_P_size a_P_xs f_P_xs a_P_ys f_P_ys a_P_cells f_P_cells a_P_lows f_P_lows a_P_highs f_P_highs a_P_states f_P_states a_P_men f_P_men a_P_stores f_P_stores a_C v_C_postsThen a_C_measured f_C_measured a_C_statesThen f_C_statesThen a_C_came f_C_came a_C_lacks f_C_lacks a_C_firstFrom f_C_firstFrom a_C_costs f_C_costs a_C_c0 f_C_c0 a_C_c1 f_C_c1 a_C_c2 f_C_c2 a_C_c3 f_C_c3 a_C_c4 f_C_c4 a_C_c5 f_C_c5 a_C_c6 f_C_c6 a_C_c7 f_C_c7 a_C_c8 f_C_c8 a_C_c9 f_C_c9 a_C_c10 f_C_c10 a_C_c11 f_C_c11 a_S a_N a_L a_V a_K a_E a_M a_RA a_T_treesLow a_T_treesHigh a_T_worst a_T_best x0) (vwX11_supply_vc K a_D a_T v_T_width v_T_height v_T_bending a_T_heights f_T_heights a_T_woods f_T_woods a_P v_P_size a_P_xs f_P_xs a_P_ys f_P_ys a_P_cells f_P_cells a_P_lows f_P_lows a_P_highs f_P_highs a_P_states f_P_states a_P_men f_P_men a_P_stores f_P_stores a_C v_C_postsThen a_C_measured f_C_measured a_C_statesThen f_C_statesThen a_C_came f_C_came a_C_lacks f_C_lacks a_C_firstFrom f_C_firstFrom a_C_costs f_C_costs a_C_c0 f_C_c0 a_C_c1 f_C_c1 a_C_c2 f_C_c2 a_C_c3 f_C_c3 a_C_c4 f_C_c4 a_C_c5 f_C_c5 a_C_c6 f_C_c6 a_C_c7 f_C_c7 a_C_c8 f_C_c8 a_C_c9 f_C_c9 a_C_c10 f_C_c10 a_C_c11 f_C_c11 a_S a_N a_L a_V a_K a_E a_M a_RA a_T_treesLow a_T_treesHigh a_T_worst a_T_best x0) := by
  refine uMet (Qc := uQi D (qwX11_supply_vc a_D a_T v_T_width v_T_height v_T_bending a_T_heights f_T_heights a_T_woods f_T_woods a_P v_P_size a_P_xs f_P_xs a_P_ys f_P_ys a_P_cells f_P_cells a_P_lows f_P_lows a_P_highs f_P_highs a_P_states f_P_states a_P_men f_P_men a_P_stores f_P_stores a_C v_C_postsThen a_C_measured f_C_measured a_C_statesThen f_C_statesThen a_C_came f_C_came a_C_lacks f_C_lacks a_C_firstFrom f_C_firstFrom a_C_costs f_C_costs a_C_c0 f_C_c0 a_C_c1 f_C_c1 a_C_c2 f_C_c2 a_C_c3 f_C_c3 a_C_c4 f_C_c4 a_C_c5 f_C_c5 a_C_c6 f_C_c6 a_C_c7 f_C_c7 a_C_c8 f_C_c8 a_C_c9 f_C_c9 a_C_c10 f_C_c10 a_C_c11 f_C_c11 a_S a_N a_L a_V a_K a_E a_M a_RA a_T_treesLow a_T_treesHigh a_T_worst a_T_best x0) (vwX11_supply_vc K a_D a_T v_T_width v_T_height v_T_bending a_T_heights f_T_heights a_T_woods f_T_woods a_P v_P_size a_P_xs f_P_xs a_P_ys f_P_ys a_P_cells f_P_cells a_P_lows f_P_lows a_P_highs f_P_highs a_P_states f_P_states a_P_men f_P_men a_P_stores f_P_stores a_C v_C_postsThen a_C_measured f_C_measured a_C_statesThen f_C_statesThen a_C_came f_C_came a_C_lacks f_C_lacks a_C_firstFrom f_C_firstFrom a_C_costs f_C_costs a_C_c0 f_C_c0 a_C_c1 f_C_c1 a_C_c2 f_C_c2 a_C_c3 f_C_c3 a_C_c4 f_C_c4 a_C_c5 f_C_c5 a_C_c6 f_C_c6 a_C_c7 f_C_c7 a_C_c8 f_C_c8 a_C_c9 f_C_c9 a_C_c10 f_C_c10 a_C_c11 f_C_c11 a_S a_N a_L a_V a_K a_E a_M a_RA a_T_treesLow a_T_treesHigh a_T_worst a_T_best x0)) (ret := (some .int)) (by decide) (Nat.le_of_ble_eq_true rfl) ?_
  intro p e s m below meth c A ls hAe hsz B hP hD hS hl
  have hx := B.1
  have hb := B.2.1
  have hl : lv_has ls 2 [(0, .ref a_D), (1, .int x0)] := hl
  refine lv_iload_n hx hb dX11_supply_0 rfl (lv_at hl 1 rfl) ?_
  refine lv_iconst (v := 1) hx hb dX11_supply_1 (by decide) ?_
  refine lv_icmp_lt (tgt := 11) hx hb dX11_supply_2 (by decide) (fun c1 => ?_) (fun c1 => ?_)
  · refine lv_iconst (v := (-1)) hx hb dX11_supply_11 (by decide) ?_
    exact uRi (f_P_stores, v_C_postsThen, f_C_measured, f_C_statesThen, f_C_came, f_C_lacks, f_C_firstFrom, f_C_c0, f_C_c1, f_C_c2, f_C_c3, f_C_c4, f_C_c5, f_C_c6, f_C_c7, f_C_c8, f_C_c9, f_C_c10, f_C_c11) B ⟨(Or.inl ⟨(by intro h9; simp only [uwSp, fa_lt, fa_le, fa_eq, Int32.reduceToInt] at h9 c1; omega), rfl, rfl⟩), (by (try dsimp only); omega), b_C_measured, i_uwCc⟩ (uSub hP [0, 1, 2, 3, 4, 5, 6, 7, 8, 9, 10, 11, 12, 13, 14, 15, 16, 17, 18, 19, 20, 21, 22, 23, 24, 25, 26, 27, 28, 29, 30, 31] rfl) (hD.sub [0, 1, 2, 3, 4, 5, 6, 7, 8, 9, 10, 11, 12, 13, 14, 15, 16, 17, 18, 19, 20, 21, 22, 23, 24, 25, 26, 27, 28, 29, 30, 31] rfl rfl) hS dX11_supply_12
  refine lv_iload_n hx hb dX11_supply_5 rfl (lv_at hl 1 rfl) ?_
  refine lv_bipush (v := 99) hx hb dX11_supply_6 (by decide) ?_
  refine lv_pc (q := 8) rfl ?_
  refine lv_icmp_le (tgt := 13) hx hb dX11_supply_8 (by decide) (fun c2 => ?_) (fun c2 => ?_)
  · obtain ⟨a3, ha3, ea3⟩ := uNatB (x := x0) (lo := 1) (hi := 99) (by simp only [fa_lt, fa_le, fa_eq, Int32.reduceToInt] at c1 c2; omega) (by simp only [fa_lt, fa_le, fa_eq, Int32.reduceToInt] at c1 c2; omega) (by decide)
    refine lv_aload_n hx hb dX11_supply_13 rfl (lv_at hl 0 rfl) ?_
    refine uGet (ci := 11) (C := RX11) (T := TX11) (N := 11) (v := .ref a_C) B inlX11 hP 0 rfl rfl 9 rfl mfl_X11_92 rfl rfl dX11_supply_14 ?_
    refine uVv (As := []) (rest := []) (wr := [(a_D, .inr (11, [.ref a_T, .ref a_P, .ref a_S, .ref a_N, .ref a_L, .ref a_V, .ref a_K, .ref a_E, .ref a_M, .ref a_C, .ref a_RA])), (a_P_men, .inl (K 0, 12, .inl f_P_men)), (a_P_stores, .inl (K 0, 12, .inl f_P_stores)), (a_C_statesThen, .inl (K 0, 12, .inl f_C_statesThen)), (a_C_came, .inl (K 0, 12, .inl f_C_came)), (a_C_lacks, .inl (K 0, 12, .inl f_C_lacks)), (a_C_firstFrom, .inl (K 0, 12, .inl f_C_firstFrom))]) [(a_C, .inr (0, [.ref a_T, .ref a_P, .ref a_C_costs, .ref a_C_measured, .ref a_C_statesThen, .ref a_C_came, .ref a_C_lacks, .ref a_C_firstFrom, .int (nI v_C_postsThen)])), (a_T, .inr (9, [.ref a_T_heights, .ref a_T_woods, .ref a_T_treesLow, .ref a_T_treesHigh, .ref a_T_worst, .ref a_T_best, .int (nI v_T_width), .int (nI v_T_height), .int v_T_bending])), (a_T_heights, .inl (K 0, 256, .inl f_T_heights)), (a_T_woods, .inl (K 0, 256, .inl f_T_woods)), (a_P, .inr (4, [.ref a_T, .ref a_P_xs, .ref a_P_ys, .ref a_P_cells, .ref a_P_lows, .ref a_P_highs, .ref a_P_states, .ref a_P_men, .ref a_P_stores, .int (nI v_P_size)])), (a_P_xs, .inl (K 0, 12, .inl f_P_xs)), (a_P_ys, .inl (K 0, 12, .inl f_P_ys)), (a_P_cells, .inl (K 0, 12, .inl f_P_cells)), (a_P_lows, .inl (K 0, 12, .inl f_P_lows)), (a_P_highs, .inl (K 0, 12, .inl f_P_highs)), (a_P_states, .inl (K 0, 12, .inl f_P_states)), (a_C_measured, .inl (K 1, 12, .inl f_C_measured)), (a_C_costs, .inl (K 3, 12, .inr (.inr (.inr (.inr f_C_costs))))), (a_C_c0, .inl (K 0, 256, .inl f_C_c0)), (a_C_c1, .inl (K 0, 256, .inl f_C_c1)), (a_C_c2, .inl (K 0, 256, .inl f_C_c2)), (a_C_c3, .inl (K 0, 256, .inl f_C_c3)), (a_C_c4, .inl (K 0, 256, .inl f_C_c4)), (a_C_c5, .inl (K 0, 256, .inl f_C_c5)), (a_C_c6, .inl (K 0, 256, .inl f_C_c6)), (a_C_c7, .inl (K 0, 256, .inl f_C_c7)), (a_C_c8, .inl (K 0, 256, .inl f_C_c8)), (a_C_c9, .inl (K 0, 256, .inl f_C_c9)), (a_C_c10, .inl (K 0, 256, .inl f_C_c10)), (a_C_c11, .inl (K 0, 256, .inl f_C_c11))] B hl.1 hP hD hS [13, 1, 2, 3, 4, 5, 6, 7, 8, 9, 10, 14, 19, 20, 21, 22, 23, 24, 25, 26, 27, 28, 29, 30, 31] [0, 11, 12, 15, 16, 17, 18] rfl rfl rfl (wX0_measureAll_vc l D K _ a_C v_C_postsThen a_T v_T_width v_T_height v_T_bending a_T_heights f_T_heights a_T_woods f_T_woods a_P v_P_size a_P_xs f_P_xs a_P_ys f_P_ys a_P_cells f_P_cells a_P_lows f_P_lows a_P_highs f_P_highs a_P_states f_P_states a_C_measured f_C_measured a_C_costs f_C_costs a_C_c0 f_C_c0 a_C_c1 f_C_c1 a_C_c2 f_C_c2 a_C_c3 f_C_c3 a_C_c4 f_C_c4 a_C_c5 f_C_c5 a_C_c6 f_C_c6 a_C_c7 f_C_c7 a_C_c8 f_C_c8 a_C_c9 f_C_c9 a_C_c10 f_C_c10 a_C_c11 f_C_c11 a_C_statesThen a_C_came a_C_lacks a_C_firstFrom a_T_treesLow a_T_treesHigh a_T_worst a_T_best a_P_men a_P_stores (by omega) (by omega) (by omega) (by omega) (by omega) r_T_woods (by omega) r_P_xs r_P_ys r_P_cells b_C_measured k_C_costs_0 k_C_costs_1 k_C_costs_2 k_C_costs_3 k_C_costs_4 k_C_costs_5 k_C_costs_6 k_C_costs_7 k_C_costs_8 k_C_costs_9 k_C_costs_10 k_C_costs_11 i_uwHt i_uwPo i_uwCc) wd_X0_measureAll mml_X11_270 rfl rfl rfl rfl ⟨Nat.le_of_ble_eq_true rfl, Nat.le_of_ble_eq_true rfl⟩ (Nat.le_of_ble_eq_true rfl) ⟨Nat.le_of_ble_eq_true rfl, Nat.le_of_ble_eq_true rfl⟩ dX11_supply_17 (fun u H locs hw hP hD hS => ?_)
    obtain ⟨u5, u6, u7, u8, u9, u10, u11, u12, u13, u14, u15, u16, u17⟩ := u
    try dsimp only at hw
    obtain ⟨w18, w19, w20⟩ := hw
    replace w20 : ∀ pY, pY < v_P_size → f_P_states pY = 0 → u5 pY = 1 := w20
    have hP : va_P D vwCl [(a_D, .inr (11, [.ref a_T, .ref a_P, .ref a_S, .ref a_N, .ref a_L, .ref a_V, .ref a_K, .ref a_E, .ref a_M, .ref a_C, .ref a_RA])), (a_P_men, .inl (K 0, 12, .inl f_P_men)), (a_P_stores, .inl (K 0, 12, .inl f_P_stores)), (a_C_statesThen, .inl (K 0, 12, .inl f_C_statesThen)), (a_C_came, .inl (K 0, 12, .inl f_C_came)), (a_C_lacks, .inl (K 0, 12, .inl f_C_lacks)), (a_C_firstFrom, .inl (K 0, 12, .inl f_C_firstFrom)), (a_C, .inr (0, [.ref a_T, .ref a_P, .ref a_C_costs, .ref a_C_measured, .ref a_C_statesThen, .ref a_C_came, .ref a_C_lacks, .ref a_C_firstFrom, .int (nI v_C_postsThen)])), (a_T, .inr (9, [.ref a_T_heights, .ref a_T_woods, .ref a_T_treesLow, .ref a_T_treesHigh, .ref a_T_worst, .ref a_T_best, .int (nI v_T_width), .int (nI v_T_height), .int v_T_bending])), (a_T_heights, .inl (K 0, 256, .inl f_T_heights)), (a_T_woods, .inl (K 0, 256, .inl f_T_woods)), (a_P, .inr (4, [.ref a_T, .ref a_P_xs, .ref a_P_ys, .ref a_P_cells, .ref a_P_lows, .ref a_P_highs, .ref a_P_states, .ref a_P_men, .ref a_P_stores, .int (nI v_P_size)])), (a_P_xs, .inl (K 0, 12, .inl f_P_xs)), (a_P_ys, .inl (K 0, 12, .inl f_P_ys)), (a_P_cells, .inl (K 0, 12, .inl f_P_cells)), (a_P_lows, .inl (K 0, 12, .inl f_P_lows)), (a_P_highs, .inl (K 0, 12, .inl f_P_highs)), (a_P_states, .inl (K 0, 12, .inl f_P_states)), (a_C_measured, .inl (K 1, 12, .inl u5)), (a_C_costs, .inl (K 3, 12, .inr (.inr (.inr (.inr f_C_costs))))), (a_C_c0, .inl (K 0, 256, .inl u6)), (a_C_c1, .inl (K 0, 256, .inl u7)), (a_C_c2, .inl (K 0, 256, .inl u8)), (a_C_c3, .inl (K 0, 256, .inl u9)), (a_C_c4, .inl (K 0, 256, .inl u10)), (a_C_c5, .inl (K 0, 256, .inl u11)), (a_C_c6, .inl (K 0, 256, .inl u12)), (a_C_c7, .inl (K 0, 256, .inl u13)), (a_C_c8, .inl (K 0, 256, .inl u14)), (a_C_c9, .inl (K 0, 256, .inl u15)), (a_C_c10, .inl (K 0, 256, .inl u16)), (a_C_c11, .inl (K 0, 256, .inl u17))] H := hP
    have hD : va_D A [(a_D, .inr (11, [.ref a_T, .ref a_P, .ref a_S, .ref a_N, .ref a_L, .ref a_V, .ref a_K, .ref a_E, .ref a_M, .ref a_C, .ref a_RA])), (a_P_men, .inl (K 0, 12, .inl f_P_men)), (a_P_stores, .inl (K 0, 12, .inl f_P_stores)), (a_C_statesThen, .inl (K 0, 12, .inl f_C_statesThen)), (a_C_came, .inl (K 0, 12, .inl f_C_came)), (a_C_lacks, .inl (K 0, 12, .inl f_C_lacks)), (a_C_firstFrom, .inl (K 0, 12, .inl f_C_firstFrom)), (a_C, .inr (0, [.ref a_T, .ref a_P, .ref a_C_costs, .ref a_C_measured, .ref a_C_statesThen, .ref a_C_came, .ref a_C_lacks, .ref a_C_firstFrom, .int (nI v_C_postsThen)])), (a_T, .inr (9, [.ref a_T_heights, .ref a_T_woods, .ref a_T_treesLow, .ref a_T_treesHigh, .ref a_T_worst, .ref a_T_best, .int (nI v_T_width), .int (nI v_T_height), .int v_T_bending])), (a_T_heights, .inl (K 0, 256, .inl f_T_heights)), (a_T_woods, .inl (K 0, 256, .inl f_T_woods)), (a_P, .inr (4, [.ref a_T, .ref a_P_xs, .ref a_P_ys, .ref a_P_cells, .ref a_P_lows, .ref a_P_highs, .ref a_P_states, .ref a_P_men, .ref a_P_stores, .int (nI v_P_size)])), (a_P_xs, .inl (K 0, 12, .inl f_P_xs)), (a_P_ys, .inl (K 0, 12, .inl f_P_ys)), (a_P_cells, .inl (K 0, 12, .inl f_P_cells)), (a_P_lows, .inl (K 0, 12, .inl f_P_lows)), (a_P_highs, .inl (K 0, 12, .inl f_P_highs)), (a_P_states, .inl (K 0, 12, .inl f_P_states)), (a_C_measured, .inl (K 1, 12, .inl u5)), (a_C_costs, .inl (K 3, 12, .inr (.inr (.inr (.inr f_C_costs))))), (a_C_c0, .inl (K 0, 256, .inl u6)), (a_C_c1, .inl (K 0, 256, .inl u7)), (a_C_c2, .inl (K 0, 256, .inl u8)), (a_C_c3, .inl (K 0, 256, .inl u9)), (a_C_c4, .inl (K 0, 256, .inl u10)), (a_C_c5, .inl (K 0, 256, .inl u11)), (a_C_c6, .inl (K 0, 256, .inl u12)), (a_C_c7, .inl (K 0, 256, .inl u13)), (a_C_c8, .inl (K 0, 256, .inl u14)), (a_C_c9, .inl (K 0, 256, .inl u15)), (a_C_c10, .inl (K 0, 256, .inl u16)), (a_C_c11, .inl (K 0, 256, .inl u17))] := hD
    refine lv_aload_n hx hb dX11_supply_20 rfl (lv_at hl 0 rfl) ?_
    refine uGet (ci := 11) (C := RX11) (T := TX11) (N := 11) (v := .ref a_C) B inlX11 hP 0 rfl rfl 9 rfl mfl_X11_92 rfl rfl dX11_supply_21 ?_
    refine lv_pc (q := 24) rfl ?_
    refine lv_iload_n hx hb dX11_supply_24 rfl (lv_at hl 1 rfl) ?_
    refine lv_fixi (y := (nI a3)) ea3 ?_
    refine uVi (As := [.int (nI a3)]) (rest := []) (wr := [(a_D, .inr (11, [.ref a_T, .ref a_P, .ref a_S, .ref a_N, .ref a_L, .ref a_V, .ref a_K, .ref a_E, .ref a_M, .ref a_C, .ref a_RA])), (a_T, .inr (9, [.ref a_T_heights, .ref a_T_woods, .ref a_T_treesLow, .ref a_T_treesHigh, .ref a_T_worst, .ref a_T_best, .int (nI v_T_width), .int (nI v_T_height), .int v_T_bending])), (a_T_heights, .inl (K 0, 256, .inl f_T_heights)), (a_T_woods, .inl (K 0, 256, .inl f_T_woods)), (a_P_xs, .inl (K 0, 12, .inl f_P_xs)), (a_P_ys, .inl (K 0, 12, .inl f_P_ys)), (a_P_lows, .inl (K 0, 12, .inl f_P_lows)), (a_P_highs, .inl (K 0, 12, .inl f_P_highs)), (a_C_measured, .inl (K 1, 12, .inl u5))]) [(a_C, .inr (0, [.ref a_T, .ref a_P, .ref a_C_costs, .ref a_C_measured, .ref a_C_statesThen, .ref a_C_came, .ref a_C_lacks, .ref a_C_firstFrom, .int (nI v_C_postsThen)])), (a_P, .inr (4, [.ref a_T, .ref a_P_xs, .ref a_P_ys, .ref a_P_cells, .ref a_P_lows, .ref a_P_highs, .ref a_P_states, .ref a_P_men, .ref a_P_stores, .int (nI v_P_size)])), (a_P_cells, .inl (K 0, 12, .inl f_P_cells)), (a_P_states, .inl (K 0, 12, .inl f_P_states)), (a_P_men, .inl (K 0, 12, .inl f_P_men)), (a_P_stores, .inl (K 0, 12, .inl f_P_stores)), (a_C_statesThen, .inl (K 0, 12, .inl f_C_statesThen)), (a_C_came, .inl (K 0, 12, .inl f_C_came)), (a_C_lacks, .inl (K 0, 12, .inl f_C_lacks)), (a_C_firstFrom, .inl (K 0, 12, .inl f_C_firstFrom)), (a_C_costs, .inl (K 3, 12, .inr (.inr (.inr (.inr f_C_costs))))), (a_C_c0, .inl (K 0, 256, .inl u6)), (a_C_c1, .inl (K 0, 256, .inl u7)), (a_C_c2, .inl (K 0, 256, .inl u8)), (a_C_c3, .inl (K 0, 256, .inl u9)), (a_C_c4, .inl (K 0, 256, .inl u10)), (a_C_c5, .inl (K 0, 256, .inl u11)), (a_C_c6, .inl (K 0, 256, .inl u12)), (a_C_c7, .inl (K 0, 256, .inl u13)), (a_C_c8, .inl (K 0, 256, .inl u14)), (a_C_c9, .inl (K 0, 256, .inl u15)), (a_C_c10, .inl (K 0, 256, .inl u16)), (a_C_c11, .inl (K 0, 256, .inl u17))] B hl.1 hP hD hS [7, 11, 14, 17, 1, 2, 3, 4, 5, 6, 19, 20, 21, 22, 23, 24, 25, 26, 27, 28, 29, 30, 31] [0, 8, 9, 10, 12, 13, 15, 16, 18] rfl rfl rfl (wX0_carryAll_vc l D K _ a_C v_C_postsThen a_P v_P_size a_P_cells f_P_cells a_P_states f_P_states a_P_men f_P_men a_P_stores f_P_stores a_C_statesThen f_C_statesThen a_C_came f_C_came a_C_lacks f_C_lacks a_C_firstFrom f_C_firstFrom a_C_costs f_C_costs a_C_c0 u6 a_C_c1 u7 a_C_c2 u8 a_C_c3 u9 a_C_c4 u10 a_C_c5 u11 a_C_c6 u12 a_C_c7 u13 a_C_c8 u14 a_C_c9 u15 a_C_c10 u16 a_C_c11 u17 a_T a_C_measured a_P_xs a_P_ys a_P_lows a_P_highs a3 (by omega) (by omega) r_P_cells k_C_costs_0 k_C_costs_1 k_C_costs_2 k_C_costs_3 k_C_costs_4 k_C_costs_5 k_C_costs_6 k_C_costs_7 k_C_costs_8 k_C_costs_9 k_C_costs_10 k_C_costs_11 (by omega) i_uwSn i_uwMn (uwWbI (by omega) (by omega) (by omega) w19 w20 i_uwPo r_P_xs r_P_ys i_uwHt r_T_woods)) wd_X0_carryAll mml_X11_273 rfl rfl rfl rfl ⟨Nat.le_of_ble_eq_true rfl, Nat.le_of_ble_eq_true rfl⟩ (Nat.le_of_ble_eq_true rfl) ⟨Nat.le_of_ble_eq_true rfl, Nat.le_of_ble_eq_true rfl⟩ dX11_supply_25 (fun r21 u H locs hw hP hD hS => ?_)
    obtain ⟨u22, u23, u24, u25, u26, u27⟩ := u
    try dsimp only at hw
    obtain ⟨w29, w28⟩ := hw
    replace w28 : u22 ≤ 12 := w28
    have hP : va_P D vwCl [(a_D, .inr (11, [.ref a_T, .ref a_P, .ref a_S, .ref a_N, .ref a_L, .ref a_V, .ref a_K, .ref a_E, .ref a_M, .ref a_C, .ref a_RA])), (a_T, .inr (9, [.ref a_T_heights, .ref a_T_woods, .ref a_T_treesLow, .ref a_T_treesHigh, .ref a_T_worst, .ref a_T_best, .int (nI v_T_width), .int (nI v_T_height), .int v_T_bending])), (a_T_heights, .inl (K 0, 256, .inl f_T_heights)), (a_T_woods, .inl (K 0, 256, .inl f_T_woods)), (a_P_xs, .inl (K 0, 12, .inl f_P_xs)), (a_P_ys, .inl (K 0, 12, .inl f_P_ys)), (a_P_lows, .inl (K 0, 12, .inl f_P_lows)), (a_P_highs, .inl (K 0, 12, .inl f_P_highs)), (a_C_measured, .inl (K 1, 12, .inl u5)), (a_C, .inr (0, [.ref a_T, .ref a_P, .ref a_C_costs, .ref a_C_measured, .ref a_C_statesThen, .ref a_C_came, .ref a_C_lacks, .ref a_C_firstFrom, .int (nI u22)])), (a_P, .inr (4, [.ref a_T, .ref a_P_xs, .ref a_P_ys, .ref a_P_cells, .ref a_P_lows, .ref a_P_highs, .ref a_P_states, .ref a_P_men, .ref a_P_stores, .int (nI v_P_size)])), (a_P_cells, .inl (K 0, 12, .inl f_P_cells)), (a_P_states, .inl (K 0, 12, .inl f_P_states)), (a_P_men, .inl (K 0, 12, .inl f_P_men)), (a_P_stores, .inl (K 0, 12, .inl u23)), (a_C_statesThen, .inl (K 0, 12, .inl u24)), (a_C_came, .inl (K 0, 12, .inl u25)), (a_C_lacks, .inl (K 0, 12, .inl u26)), (a_C_firstFrom, .inl (K 0, 12, .inl u27)), (a_C_costs, .inl (K 3, 12, .inr (.inr (.inr (.inr f_C_costs))))), (a_C_c0, .inl (K 0, 256, .inl u6)), (a_C_c1, .inl (K 0, 256, .inl u7)), (a_C_c2, .inl (K 0, 256, .inl u8)), (a_C_c3, .inl (K 0, 256, .inl u9)), (a_C_c4, .inl (K 0, 256, .inl u10)), (a_C_c5, .inl (K 0, 256, .inl u11)), (a_C_c6, .inl (K 0, 256, .inl u12)), (a_C_c7, .inl (K 0, 256, .inl u13)), (a_C_c8, .inl (K 0, 256, .inl u14)), (a_C_c9, .inl (K 0, 256, .inl u15)), (a_C_c10, .inl (K 0, 256, .inl u16)), (a_C_c11, .inl (K 0, 256, .inl u17))] H := hP
    have hD : va_D A [(a_D, .inr (11, [.ref a_T, .ref a_P, .ref a_S, .ref a_N, .ref a_L, .ref a_V, .ref a_K, .ref a_E, .ref a_M, .ref a_C, .ref a_RA])), (a_T, .inr (9, [.ref a_T_heights, .ref a_T_woods, .ref a_T_treesLow, .ref a_T_treesHigh, .ref a_T_worst, .ref a_T_best, .int (nI v_T_width), .int (nI v_T_height), .int v_T_bending])), (a_T_heights, .inl (K 0, 256, .inl f_T_heights)), (a_T_woods, .inl (K 0, 256, .inl f_T_woods)), (a_P_xs, .inl (K 0, 12, .inl f_P_xs)), (a_P_ys, .inl (K 0, 12, .inl f_P_ys)), (a_P_lows, .inl (K 0, 12, .inl f_P_lows)), (a_P_highs, .inl (K 0, 12, .inl f_P_highs)), (a_C_measured, .inl (K 1, 12, .inl u5)), (a_C, .inr (0, [.ref a_T, .ref a_P, .ref a_C_costs, .ref a_C_measured, .ref a_C_statesThen, .ref a_C_came, .ref a_C_lacks, .ref a_C_firstFrom, .int (nI u22)])), (a_P, .inr (4, [.ref a_T, .ref a_P_xs, .ref a_P_ys, .ref a_P_cells, .ref a_P_lows, .ref a_P_highs, .ref a_P_states, .ref a_P_men, .ref a_P_stores, .int (nI v_P_size)])), (a_P_cells, .inl (K 0, 12, .inl f_P_cells)), (a_P_states, .inl (K 0, 12, .inl f_P_states)), (a_P_men, .inl (K 0, 12, .inl f_P_men)), (a_P_stores, .inl (K 0, 12, .inl u23)), (a_C_statesThen, .inl (K 0, 12, .inl u24)), (a_C_came, .inl (K 0, 12, .inl u25)), (a_C_lacks, .inl (K 0, 12, .inl u26)), (a_C_firstFrom, .inl (K 0, 12, .inl u27)), (a_C_costs, .inl (K 3, 12, .inr (.inr (.inr (.inr f_C_costs))))), (a_C_c0, .inl (K 0, 256, .inl u6)), (a_C_c1, .inl (K 0, 256, .inl u7)), (a_C_c2, .inl (K 0, 256, .inl u8)), (a_C_c3, .inl (K 0, 256, .inl u9)), (a_C_c4, .inl (K 0, 256, .inl u10)), (a_C_c5, .inl (K 0, 256, .inl u11)), (a_C_c6, .inl (K 0, 256, .inl u12)), (a_C_c7, .inl (K 0, 256, .inl u13)), (a_C_c8, .inl (K 0, 256, .inl u14)), (a_C_c9, .inl (K 0, 256, .inl u15)), (a_C_c10, .inl (K 0, 256, .inl u16)), (a_C_c11, .inl (K 0, 256, .inl u17))] := hD
    replace w29 : (∃ lY, uwLk0 f_P_states f_P_men a3 v_P_size lY ∧ uwEn (fun pY => f_P_states pY = 0) v_P_size (fun aY bY => ([u6, u7, u8, u9, u10, u11, u12, u13, u14, u15, u16, u17] : List (Nat → Int32)).getD aY (fun _ => 0) (uN (f_P_cells bY))) f_P_stores lY 0 u23 u26 r21) := w29
    exact uRi (u23, u22, u5, u24, u25, u26, u27, u6, u7, u8, u9, u10, u11, u12, u13, u14, u15, u16, u17) B ⟨(Or.inr ⟨(by have tx0 : x0.toInt = ((a3 : Nat) : Int) := (by rw [ea3]; exact nI_toInt (by omega)); simp only [uwSp, fa_lt, fa_le, fa_eq, Int32.reduceToInt] at c1 c2 ⊢; omega), (by rw [uNe (by omega) ea3]; obtain ⟨l9, q9, k9⟩ := w29; exact ⟨l9, _, _, q9, uwWvI (by omega) w19 w20 i_uwPo r_P_xs r_P_ys, k9⟩)⟩), (by (try dsimp only); omega), w18, w19⟩ (uSub hP [0, 1, 2, 3, 10, 4, 5, 11, 6, 7, 12, 13, 14, 9, 8, 15, 16, 17, 18, 19, 20, 21, 22, 23, 24, 25, 26, 27, 28, 29, 30, 31] rfl) (hD.sub [0, 1, 2, 3, 10, 4, 5, 11, 6, 7, 12, 13, 14, 9, 8, 15, 16, 17, 18, 19, 20, 21, 22, 23, 24, 25, 26, 27, 28, 29, 30, 31] rfl rfl) hS dX11_supply_28
  refine lv_iconst (v := (-1)) hx hb dX11_supply_11 (by decide) ?_
  exact uRi (f_P_stores, v_C_postsThen, f_C_measured, f_C_statesThen, f_C_came, f_C_lacks, f_C_firstFrom, f_C_c0, f_C_c1, f_C_c2, f_C_c3, f_C_c4, f_C_c5, f_C_c6, f_C_c7, f_C_c8, f_C_c9, f_C_c10, f_C_c11) B ⟨(Or.inl ⟨(by intro h9; simp only [uwSp, fa_lt, fa_le, fa_eq, Int32.reduceToInt] at h9 c1 c2; omega), rfl, rfl⟩), (by (try dsimp only); omega), b_C_measured, i_uwCc⟩ (uSub hP [0, 1, 2, 3, 4, 5, 6, 7, 8, 9, 10, 11, 12, 13, 14, 15, 16, 17, 18, 19, 20, 21, 22, 23, 24, 25, 26, 27, 28, 29, 30, 31] rfl) (hD.sub [0, 1, 2, 3, 4, 5, 6, 7, 8, 9, 10, 11, 12, 13, 14, 15, 16, 17, 18, 19, 20, 21, 22, 23, 24, 25, 26, 27, 28, 29, 30, 31] rfl rfl) hS dX11_supply_12

def qwX7_wordOfRow (a_R : Nat) (v_R_words : Nat) (v_R_likes : Int32) (v_R_orders : Nat) (v_R_minutes : Int32) (v_R_look : Int32) (a_R_rows : Nat) (f_R_rows : Nat → Int32) (a_R_names : Nat) (a_R_lengths : Nat) (a_R_dim : Nat) (a_R_orderPosts : Nat) (a_R_orderWords : Nat) (a_R_orderTwice : Nat) (a_R_actCounts : Nat) (a_R_acts : Nat) (a_R_actNumbers : Nat) (a_R_actPosts : Nat) (x0 : Int32) : Int32 → (Unit) → Prop := (fun (r : Int32) (u : Unit) => ((r = (-1)) ∨ ((∃ a : Nat, a < v_R_words ∧ r = nI a))))
def vwX7_wordOfRow (K : Nat → ClassId) (a_R : Nat) (v_R_words : Nat) (v_R_likes : Int32) (v_R_orders : Nat) (v_R_minutes : Int32) (v_R_look : Int32) (a_R_rows : Nat) (f_R_rows : Nat → Int32) (a_R_names : Nat) (a_R_lengths : Nat) (a_R_dim : Nat) (a_R_orderPosts : Nat) (a_R_orderWords : Nat) (a_R_orderTwice : Nat) (a_R_actCounts : Nat) (a_R_acts : Nat) (a_R_actNumbers : Nat) (a_R_actPosts : Nat) (x0 : Int32) : (Unit) → va_W := (fun (u : Unit) => [(a_R, .inr (7, [.ref a_R_names, .ref a_R_rows, .ref a_R_lengths, .ref a_R_dim, .ref a_R_orderPosts, .ref a_R_orderWords, .ref a_R_orderTwice, .ref a_R_actCounts, .ref a_R_acts, .ref a_R_actNumbers, .ref a_R_actPosts, .int (nI v_R_words), .int v_R_likes, .int (nI v_R_orders), .int v_R_minutes, .int v_R_look])), (a_R_rows, .inl (K 0, 10, .inl f_R_rows))])
set_option maxHeartbeats 4000000 in
set_option maxRecDepth 100000 in
theorem wX7_wordOfRow (l : Launch) (D : va_G) (K : Nat → ClassId) (sz : Nat) (a_R : Nat) (v_R_words : Nat) (v_R_likes : Int32) (v_R_orders : Nat) (v_R_minutes : Int32) (v_R_look : Int32) (a_R_rows : Nat) (f_R_rows : Nat → Int32) (a_R_names : Nat) (a_R_lengths : Nat) (a_R_dim : Nat) (a_R_orderPosts : Nat) (a_R_orderWords : Nat) (a_R_orderTwice : Nat) (a_R_actCounts : Nat) (a_R_acts : Nat) (a_R_actNumbers : Nat) (a_R_actPosts : Nat) (x0 : Int32) (hv_R_words : v_R_words ≤ 10) (hv_R_orders : v_R_orders ≤ 16) : uMi l yX7_wordOfRow cX7_wordOfRow 3 (some .int) { frames := 0, cells := 0, slots := 0, locals := 0 } [.ref a_R, .int x0] D K [(a_R, .inr (7, [.ref a_R_names, .ref a_R_rows, .ref a_R_lengths, .ref a_R_dim, .ref a_R_orderPosts, .ref a_R_orderWords, .ref a_R_orderTwice, .ref a_R_actCounts, .ref a_R_acts, .ref a_R_actNumbers, .ref a_R_actPosts, .int (nI v_R_words), .int v_R_likes, .int (nI v_R_orders), .int v_R_minutes, .int v_R_look])), (a_R_rows, .inl (K 0, 10, .inl f_R_rows))] sz (qwX7_wordOfRow a_R v_R_words v_R_likes v_R_orders v_R_minutes v_R_look a_R_rows f_R_rows a_R_names a_R_lengths a_R_dim a_R_orderPosts a_R_orderWords a_R_orderTwice a_R_actCounts a_R_acts a_R_actNumbers a_R_actPosts x0) (vwX7_wordOfRow K a_R v_R_words v_R_likes v_R_orders v_R_minutes v_R_look a_R_rows f_R_rows a_R_names a_R_lengths a_R_dim a_R_orderPosts a_R_orderWords a_R_orderTwice a_R_actCounts a_R_acts a_R_actNumbers a_R_actPosts x0) := by
  refine uMet (Qc := uQi D (qwX7_wordOfRow a_R v_R_words v_R_likes v_R_orders v_R_minutes v_R_look a_R_rows f_R_rows a_R_names a_R_lengths a_R_dim a_R_orderPosts a_R_orderWords a_R_orderTwice a_R_actCounts a_R_acts a_R_actNumbers a_R_actPosts x0) (vwX7_wordOfRow K a_R v_R_words v_R_likes v_R_orders v_R_minutes v_R_look a_R_rows f_R_rows a_R_names a_R_lengths a_R_dim a_R_orderPosts a_R_orderWords a_R_orderTwice a_R_actCounts a_R_acts a_R_actNumbers a_R_actPosts x0)) (ret := (some .int)) (by decide) (Nat.le_of_ble_eq_true rfl) ?_
  intro p e s m below meth c A ls hAe hsz B hP hD hS hl
  have hx := B.1
  have hb := B.2.1
  have hl : lv_has ls 3 [(0, .ref a_R), (1, .int x0)] := hl
  refine lv_iconst (v := 0) hx hb dX7_wordOfRow_0 (by decide) ?_
  refine lv_istore_n (lv' := [(2, .int 0), (0, .ref a_R), (1, .int x0)]) hx hb dX7_wordOfRow_1 rfl hl (by decide) rfl (fun ls hl => ?_)
  have L3 : ∀ (n9 : Nat) (j1 : Nat), (j1 ≤ v_R_words) → v_R_words - j1 < n9 → ∀ (H : Heap) (locs : List Loc) (ls : Array Slot), va_P D vwCl [(a_R, .inr (7, [.ref a_R_names, .ref a_R_rows, .ref a_R_lengths, .ref a_R_dim, .ref a_R_orderPosts, .ref a_R_orderWords, .ref a_R_orderTwice, .ref a_R_actCounts, .ref a_R_acts, .ref a_R_actNumbers, .ref a_R_actPosts, .int (nI v_R_words), .int v_R_likes, .int (nI v_R_orders), .int v_R_minutes, .int v_R_look])), (a_R_rows, .inl (K 0, 10, .inl f_R_rows))] H → va_D A [(a_R, .inr (7, [.ref a_R_names, .ref a_R_rows, .ref a_R_lengths, .ref a_R_dim, .ref a_R_orderPosts, .ref a_R_orderWords, .ref a_R_orderTwice, .ref a_R_actCounts, .ref a_R_acts, .ref a_R_actNumbers, .ref a_R_actPosts, .int (nI v_R_words), .int v_R_likes, .int (nI v_R_orders), .int v_R_minutes, .int v_R_look])), (a_R_rows, .inl (K 0, 10, .inl f_R_rows))] → va_S A s.heap H locs → lv_has ls 3 [(2, .int (nI j1)), (0, .ref a_R), (1, .int x0)] → W p l e { frames := 0, cells := 0, slots := 0, locals := 0 } s m ([.ref a_R, .int x0] : List Value).toArray below meth c H locs 0 0 (MQ below (uQi D (qwX7_wordOfRow a_R v_R_words v_R_likes v_R_orders v_R_minutes v_R_look a_R_rows f_R_rows a_R_names a_R_lengths a_R_dim a_R_orderPosts a_R_orderWords a_R_orderTwice a_R_actCounts a_R_acts a_R_actNumbers a_R_actPosts x0) (vwX7_wordOfRow K a_R v_R_words v_R_likes v_R_orders v_R_minutes v_R_look a_R_rows f_R_rows a_R_names a_R_lengths a_R_dim a_R_orderPosts a_R_orderWords a_R_orderTwice a_R_actCounts a_R_acts a_R_actNumbers a_R_actPosts x0) A) ([.ref a_R, .int x0] : List Value).toArray s 0 0 A) (F0 m 2 ls []) := by
    intro n9
    induction n9 with
    | zero => intros; exact absurd ‹_ < 0› (Nat.not_lt_zero _)
    | succ n2_ ih2 =>
      intro j1 hj1 hm2 H locs ls hP hD hS hl
      refine lv_iload_n hx hb dX7_wordOfRow_2 rfl (lv_at hl 0 rfl) ?_
      refine lv_aload_n hx hb dX7_wordOfRow_3 rfl (lv_at hl 1 rfl) ?_
      refine uGet (ci := 7) (C := RX7) (T := TX7) (N := 16) (v := .int (nI v_R_words)) B inlX7 hP 0 rfl rfl 11 rfl mfl_X7_47 rfl rfl dX7_wordOfRow_4 ?_
      refine lv_pc (q := 7) rfl ?_
      refine lv_icmp_ge (tgt := 28) hx hb dX7_wordOfRow_7 (by decide) (fun c4 => ?_) (fun c4 => ?_)
      · have k_4 : v_R_words ≤ j1 := (nI_leI (a := v_R_words) (b := j1) (by omega) (by omega)).mp c4
        refine lv_iconst (v := (-1)) hx hb dX7_wordOfRow_28 (by decide) ?_
        exact uRi () B (Or.inl rfl) (uSub hP [0, 1] rfl) (hD.sub [0, 1] rfl rfl) hS dX7_wordOfRow_29
      have k_4 : ¬ v_R_words ≤ j1 := fun h9 => c4 ((nI_leI (a := v_R_words) (b := j1) (by omega) (by omega)).mpr h9)
      refine lv_aload_n hx hb dX7_wordOfRow_10 rfl (lv_at hl 1 rfl) ?_
      refine uGet (ci := 7) (C := RX7) (T := TX7) (N := 16) (v := .ref a_R_rows) B inlX7 hP 0 rfl rfl 1 rfl mfl_X7_15 rfl rfl dX7_wordOfRow_11 ?_
      refine lv_iload_n hx hb dX7_wordOfRow_14 rfl (lv_at hl 0 rfl) ?_
      refine uIald (i := (nI j1)) (j := j1) B hP 1 rfl (nI_in (by omega) (by omega)) (nI_clamp (by omega)) dX7_wordOfRow_15 ?_
      refine lv_iload_n hx hb dX7_wordOfRow_16 rfl (lv_at hl 2 rfl) ?_
      refine lv_pc (q := 17) rfl ?_
      refine lv_icmp_ne (tgt := 22) hx hb dX7_wordOfRow_17 (by decide) (fun c5 => ?_) (fun c5 => ?_)
      · refine lv_iinc (v := nI (j1 + 1)) (lv' := [(2, .int (nI (j1 + 1))), (0, .ref a_R), (1, .int x0)]) hx hb dX7_wordOfRow_22 hl (k := 0) rfl (nI_1 _) (by decide) rfl (fun ls hl => ?_)
        refine lv_goto (tgt := 2) hx hb dX7_wordOfRow_25 (by decide) ?_
        refine lv_pc (q := 2) rfl ?_
        refine W.widen (k := 0) (n := 0) (Nat.le_of_ble_eq_true rfl) (Nat.le_of_ble_eq_true rfl) ?_
        exact ih2 (j1 + 1) (by omega) (by omega) _ _ _ (uSub hP [0, 1] rfl) (hD.sub [0, 1] rfl rfl) hS (lv_sub hl [0, 1, 2] rfl)
      refine lv_iload_n hx hb dX7_wordOfRow_20 rfl (lv_at hl 0 rfl) ?_
      exact uRi () B (Or.inr ⟨j1, by omega, rfl⟩) (uSub hP [0, 1] rfl) (hD.sub [0, 1] rfl rfl) hS dX7_wordOfRow_21
  refine lv_pc (q := 2) rfl ?_
  refine W.widen (k := 0) (n := 0) (Nat.le_of_ble_eq_true rfl) (Nat.le_of_ble_eq_true rfl) ?_
  exact L3 ((v_R_words - 0) + 1) 0 (by omega) (Nat.lt_succ_self _) _ _ _ hP hD hS hl
def qwX7_readDimly (a_R : Nat) (v_R_words : Nat) (v_R_likes : Int32) (v_R_orders : Nat) (v_R_minutes : Int32) (v_R_look : Int32) (a_R_rows : Nat) (f_R_rows : Nat → Int32) (a_R_dim : Nat) (f_R_dim : Nat → Int32) (a_R_names : Nat) (a_R_lengths : Nat) (a_R_orderPosts : Nat) (a_R_orderWords : Nat) (a_R_orderTwice : Nat) (a_R_actCounts : Nat) (a_R_acts : Nat) (a_R_actNumbers : Nat) (a_R_actPosts : Nat) (x0 : Nat) : Int32 → (Unit) → Prop := (fun (r : Int32) (u : Unit) => ((r = (-1)) ∨ ((∃ a : Nat, a < v_R_words ∧ r = nI a))))
def vwX7_readDimly (K : Nat → ClassId) (a_R : Nat) (v_R_words : Nat) (v_R_likes : Int32) (v_R_orders : Nat) (v_R_minutes : Int32) (v_R_look : Int32) (a_R_rows : Nat) (f_R_rows : Nat → Int32) (a_R_dim : Nat) (f_R_dim : Nat → Int32) (a_R_names : Nat) (a_R_lengths : Nat) (a_R_orderPosts : Nat) (a_R_orderWords : Nat) (a_R_orderTwice : Nat) (a_R_actCounts : Nat) (a_R_acts : Nat) (a_R_actNumbers : Nat) (a_R_actPosts : Nat) (x0 : Nat) : (Unit) → va_W := (fun (u : Unit) => [(a_R, .inr (7, [.ref a_R_names, .ref a_R_rows, .ref a_R_lengths, .ref a_R_dim, .ref a_R_orderPosts, .ref a_R_orderWords, .ref a_R_orderTwice, .ref a_R_actCounts, .ref a_R_acts, .ref a_R_actNumbers, .ref a_R_actPosts, .int (nI v_R_words), .int v_R_likes, .int (nI v_R_orders), .int v_R_minutes, .int v_R_look])), (a_R_rows, .inl (K 0, 10, .inl f_R_rows)), (a_R_dim, .inl (K 0, 10, .inl f_R_dim))])
set_option maxHeartbeats 4000000 in
set_option maxRecDepth 100000 in
theorem wX7_readDimly (l : Launch) (D : va_G) (K : Nat → ClassId) (sz : Nat) (a_R : Nat) (v_R_words : Nat) (v_R_likes : Int32) (v_R_orders : Nat) (v_R_minutes : Int32) (v_R_look : Int32) (a_R_rows : Nat) (f_R_rows : Nat → Int32) (a_R_dim : Nat) (f_R_dim : Nat → Int32) (a_R_names : Nat) (a_R_lengths : Nat) (a_R_orderPosts : Nat) (a_R_orderWords : Nat) (a_R_orderTwice : Nat) (a_R_actCounts : Nat) (a_R_acts : Nat) (a_R_actNumbers : Nat) (a_R_actPosts : Nat) (x0 : Nat) (hv_R_words : v_R_words ≤ 10) (hv_R_orders : v_R_orders ≤ 16) (r_R_dim : uRg f_R_dim 0 9) (hx0 : x0 < 10) : uMi l yX7_readDimly cX7_readDimly 6 (some .int) { frames := 1, cells := 0, slots := 0, locals := 22 } [.ref a_R, .int (nI x0)] D K [(a_R, .inr (7, [.ref a_R_names, .ref a_R_rows, .ref a_R_lengths, .ref a_R_dim, .ref a_R_orderPosts, .ref a_R_orderWords, .ref a_R_orderTwice, .ref a_R_actCounts, .ref a_R_acts, .ref a_R_actNumbers, .ref a_R_actPosts, .int (nI v_R_words), .int v_R_likes, .int (nI v_R_orders), .int v_R_minutes, .int v_R_look])), (a_R_rows, .inl (K 0, 10, .inl f_R_rows)), (a_R_dim, .inl (K 0, 10, .inl f_R_dim))] sz (qwX7_readDimly a_R v_R_words v_R_likes v_R_orders v_R_minutes v_R_look a_R_rows f_R_rows a_R_dim f_R_dim a_R_names a_R_lengths a_R_orderPosts a_R_orderWords a_R_orderTwice a_R_actCounts a_R_acts a_R_actNumbers a_R_actPosts x0) (vwX7_readDimly K a_R v_R_words v_R_likes v_R_orders v_R_minutes v_R_look a_R_rows f_R_rows a_R_dim f_R_dim a_R_names a_R_lengths a_R_orderPosts a_R_orderWords a_R_orderTwice a_R_actCounts a_R_acts a_R_actNumbers a_R_actPosts x0) := by
  refine uMet (Qc := uQi D (qwX7_readDimly a_R v_R_words v_R_likes v_R_orders v_R_minutes v_R_look a_R_rows f_R_rows a_R_dim f_R_dim a_R_names a_R_lengths a_R_orderPosts a_R_orderWords a_R_orderTwice a_R_actCounts a_R_acts a_R_actNumbers a_R_actPosts x0) (vwX7_readDimly K a_R v_R_words v_R_likes v_R_orders v_R_minutes v_R_look a_R_rows f_R_rows a_R_dim f_R_dim a_R_names a_R_lengths a_R_orderPosts a_R_orderWords a_R_orderTwice a_R_actCounts a_R_acts a_R_actNumbers a_R_actPosts x0)) (ret := (some .int)) (by decide) (Nat.le_of_ble_eq_true rfl) ?_
  intro p e s m below meth c A ls hAe hsz B hP hD hS hl
  have hx := B.1
  have hb := B.2.1
  have hl : lv_has ls 6 [(0, .ref a_R), (1, .int (nI x0))] := hl
  refine lv_aload_n hx hb dX7_readDimly_0 rfl (lv_at hl 0 rfl) ?_
  refine uGet (ci := 7) (C := RX7) (T := TX7) (N := 16) (v := .ref a_R_rows) B inlX7 hP 0 rfl rfl 1 rfl mfl_X7_15 rfl rfl dX7_readDimly_1 ?_
  refine lv_iload_n hx hb dX7_readDimly_4 rfl (lv_at hl 1 rfl) ?_
  refine uIald (i := (nI x0)) (j := x0) B hP 1 rfl (nI_in (by omega) (by omega)) (nI_clamp (by omega)) dX7_readDimly_5 ?_
  refine lv_istore_n (lv' := [(2, .int (f_R_rows x0)), (0, .ref a_R), (1, .int (nI x0))]) hx hb dX7_readDimly_6 rfl hl (by decide) rfl (fun ls hl => ?_)
  refine lv_pc (q := 7) rfl ?_
  refine lv_iconst (v := 0) hx hb dX7_readDimly_7 (by decide) ?_
  refine lv_istore_n (lv' := [(3, .int 0), (2, .int (f_R_rows x0)), (0, .ref a_R), (1, .int (nI x0))]) hx hb dX7_readDimly_8 rfl hl (by decide) rfl (fun ls hl => ?_)
  refine lv_iconst (v := 1) hx hb dX7_readDimly_9 (by decide) ?_
  refine lv_istore (lv' := [(4, .int 1), (3, .int 0), (2, .int (f_R_rows x0)), (0, .ref a_R), (1, .int (nI x0))]) hx hb dX7_readDimly_10 hl (by decide) rfl (fun ls hl => ?_)
  refine lv_iconst (v := 0) hx hb dX7_readDimly_12 (by decide) ?_
  refine lv_istore (lv' := [(5, .int 0), (4, .int 1), (3, .int 0), (2, .int (f_R_rows x0)), (0, .ref a_R), (1, .int (nI x0))]) hx hb dX7_readDimly_13 hl (by decide) rfl (fun ls hl => ?_)
  have L6 : ∀ (n9 : Nat) (j1 : Nat) (y2 : Int32) (y3 : Int32) (y4 : Int32), (j1 ≤ 5) → 5 - j1 < n9 → ∀ (H : Heap) (locs : List Loc) (ls : Array Slot), va_P D vwCl [(a_R, .inr (7, [.ref a_R_names, .ref a_R_rows, .ref a_R_lengths, .ref a_R_dim, .ref a_R_orderPosts, .ref a_R_orderWords, .ref a_R_orderTwice, .ref a_R_actCounts, .ref a_R_acts, .ref a_R_actNumbers, .ref a_R_actPosts, .int (nI v_R_words), .int v_R_likes, .int (nI v_R_orders), .int v_R_minutes, .int v_R_look])), (a_R_rows, .inl (K 0, 10, .inl f_R_rows)), (a_R_dim, .inl (K 0, 10, .inl f_R_dim))] H → va_D A [(a_R, .inr (7, [.ref a_R_names, .ref a_R_rows, .ref a_R_lengths, .ref a_R_dim, .ref a_R_orderPosts, .ref a_R_orderWords, .ref a_R_orderTwice, .ref a_R_actCounts, .ref a_R_acts, .ref a_R_actNumbers, .ref a_R_actPosts, .int (nI v_R_words), .int v_R_likes, .int (nI v_R_orders), .int v_R_minutes, .int v_R_look])), (a_R_rows, .inl (K 0, 10, .inl f_R_rows)), (a_R_dim, .inl (K 0, 10, .inl f_R_dim))] → va_S A s.heap H locs → lv_has ls 6 [(5, .int (nI j1)), (4, .int y4), (3, .int y3), (2, .int y2), (0, .ref a_R), (1, .int (nI x0))] → W p l e { frames := 1, cells := 0, slots := 0, locals := 22 } s m ([.ref a_R, .int (nI x0)] : List Value).toArray below meth c H locs 0 0 (MQ below (uQi D (qwX7_readDimly a_R v_R_words v_R_likes v_R_orders v_R_minutes v_R_look a_R_rows f_R_rows a_R_dim f_R_dim a_R_names a_R_lengths a_R_orderPosts a_R_orderWords a_R_orderTwice a_R_actCounts a_R_acts a_R_actNumbers a_R_actPosts x0) (vwX7_readDimly K a_R v_R_words v_R_likes v_R_orders v_R_minutes v_R_look a_R_rows f_R_rows a_R_dim f_R_dim a_R_names a_R_lengths a_R_orderPosts a_R_orderWords a_R_orderTwice a_R_actCounts a_R_acts a_R_actNumbers a_R_actPosts x0) A) ([.ref a_R, .int (nI x0)] : List Value).toArray s 0 0 A) (F0 m 15 ls []) := by
    intro n9
    induction n9 with
    | zero => intros; exact absurd ‹_ < 0› (Nat.not_lt_zero _)
    | succ n15_ ih15 =>
      intro j1 y2 y3 y4 hj1 hm15 H locs ls hP hD hS hl
      refine lv_pc (q := 15) rfl ?_
      refine lv_iload hx hb dX7_readDimly_15 (lv_at hl 0 rfl) ?_
      refine lv_iconst (v := 5) hx hb dX7_readDimly_17 (by decide) ?_
      refine lv_icmp_ge (tgt := 58) hx hb dX7_readDimly_18 (by decide) (fun c7 => ?_) (fun c7 => ?_)
      · have k_7 : 5 ≤ j1 := (nI_leI (a := 5) (b := j1) (by omega) (by omega)).mp c7
        refine lv_aload_n hx hb dX7_readDimly_58 rfl (lv_at hl 4 rfl) ?_
        refine lv_iload_n hx hb dX7_readDimly_59 rfl (lv_at hl 2 rfl) ?_
        refine uViJ (As := [.int y3]) (rest := []) (wr := [(a_R_dim, .inl (K 0, 10, .inl f_R_dim))]) (wX7_wordOfRow l D K _ a_R v_R_words v_R_likes v_R_orders v_R_minutes v_R_look a_R_rows f_R_rows a_R_names a_R_lengths a_R_dim a_R_orderPosts a_R_orderWords a_R_orderTwice a_R_actCounts a_R_acts a_R_actNumbers a_R_actPosts y3 (by omega) (by omega)) B hl.1 hP hD hS [0, 1] [2] rfl rfl rfl wd_X7_wordOfRow mml_X7_72 rfl rfl rfl rfl ⟨Nat.le_of_ble_eq_true rfl, Nat.le_of_ble_eq_true rfl⟩ (Nat.le_of_ble_eq_true rfl) ⟨Nat.le_of_ble_eq_true rfl, Nat.le_of_ble_eq_true rfl⟩ dX7_readDimly_60 (fun r8 u H locs hw hP hD hS => ?_)
        try dsimp only at hw
        have w9 := hw
        have hP : va_P D vwCl [(a_R_dim, .inl (K 0, 10, .inl f_R_dim)), (a_R, .inr (7, [.ref a_R_names, .ref a_R_rows, .ref a_R_lengths, .ref a_R_dim, .ref a_R_orderPosts, .ref a_R_orderWords, .ref a_R_orderTwice, .ref a_R_actCounts, .ref a_R_acts, .ref a_R_actNumbers, .ref a_R_actPosts, .int (nI v_R_words), .int v_R_likes, .int (nI v_R_orders), .int v_R_minutes, .int v_R_look])), (a_R_rows, .inl (K 0, 10, .inl f_R_rows))] H := hP
        have hD := uDPJ hP hD
        rcases w9 with rfl | ⟨a10, ha10, ea10⟩
        · refine lv_pc (q := 63) rfl ?_
          exact uRi () B (Or.inl rfl) (uSub hP [1, 2, 0] rfl) (hD.sub [1, 2, 0] rfl rfl) hS dX7_readDimly_63
        refine lv_fixi (y := (nI a10)) ea10 ?_
        refine lv_pc (q := 63) rfl ?_
        exact uRi () B (Or.inr ⟨a10, by omega, rfl⟩) (uSub hP [1, 2, 0] rfl) (hD.sub [1, 2, 0] rfl rfl) hS dX7_readDimly_63
      have k_7 : ¬ 5 ≤ j1 := fun h9 => c7 ((nI_leI (a := 5) (b := j1) (by omega) (by omega)).mpr h9)
      refine lv_iload_n hx hb dX7_readDimly_21 rfl (lv_at hl 3 rfl) ?_
      refine lv_if_le (tgt := 58) hx hb dX7_readDimly_22 (by decide) (fun c11 => ?_) (fun c11 => ?_)
      · refine lv_aload_n hx hb dX7_readDimly_58 rfl (lv_at hl 4 rfl) ?_
        refine lv_pc (q := 59) rfl ?_
        refine lv_iload_n hx hb dX7_readDimly_59 rfl (lv_at hl 2 rfl) ?_
        refine uViJ (As := [.int y3]) (rest := []) (wr := [(a_R_dim, .inl (K 0, 10, .inl f_R_dim))]) (wX7_wordOfRow l D K _ a_R v_R_words v_R_likes v_R_orders v_R_minutes v_R_look a_R_rows f_R_rows a_R_names a_R_lengths a_R_dim a_R_orderPosts a_R_orderWords a_R_orderTwice a_R_actCounts a_R_acts a_R_actNumbers a_R_actPosts y3 (by omega) (by omega)) B hl.1 hP hD hS [0, 1] [2] rfl rfl rfl wd_X7_wordOfRow mml_X7_72 rfl rfl rfl rfl ⟨Nat.le_of_ble_eq_true rfl, Nat.le_of_ble_eq_true rfl⟩ (Nat.le_of_ble_eq_true rfl) ⟨Nat.le_of_ble_eq_true rfl, Nat.le_of_ble_eq_true rfl⟩ dX7_readDimly_60 (fun r12 u H locs hw hP hD hS => ?_)
        try dsimp only at hw
        have w13 := hw
        have hP : va_P D vwCl [(a_R_dim, .inl (K 0, 10, .inl f_R_dim)), (a_R, .inr (7, [.ref a_R_names, .ref a_R_rows, .ref a_R_lengths, .ref a_R_dim, .ref a_R_orderPosts, .ref a_R_orderWords, .ref a_R_orderTwice, .ref a_R_actCounts, .ref a_R_acts, .ref a_R_actNumbers, .ref a_R_actPosts, .int (nI v_R_words), .int v_R_likes, .int (nI v_R_orders), .int v_R_minutes, .int v_R_look])), (a_R_rows, .inl (K 0, 10, .inl f_R_rows))] H := hP
        have hD := uDPJ hP hD
        rcases w13 with rfl | ⟨a14, ha14, ea14⟩
        · exact uRi () B (Or.inl rfl) (uSub hP [1, 2, 0] rfl) (hD.sub [1, 2, 0] rfl rfl) hS dX7_readDimly_63
        refine lv_fixi (y := (nI a14)) ea14 ?_
        exact uRi () B (Or.inr ⟨a14, by omega, rfl⟩) (uSub hP [1, 2, 0] rfl) (hD.sub [1, 2, 0] rfl rfl) hS dX7_readDimly_63
      refine lv_iload_n hx hb dX7_readDimly_25 rfl (lv_at hl 2 rfl) ?_
      refine lv_pc (q := 26) rfl ?_
      refine lv_aload_n hx hb dX7_readDimly_26 rfl (lv_at hl 4 rfl) ?_
      refine uGet (ci := 7) (C := RX7) (T := TX7) (N := 16) (v := .ref a_R_dim) B inlX7 hP 0 rfl rfl 3 rfl mfl_X7_22 rfl rfl dX7_readDimly_27 ?_
      refine lv_iload_n hx hb dX7_readDimly_30 rfl (lv_at hl 3 rfl) ?_
      refine lv_bipush (v := 10) hx hb dX7_readDimly_31 (by decide) ?_
      refine lv_irem hx hb dX7_readDimly_33 (by decide) ?_
      obtain ⟨a15, ha15, ea15⟩ := uRem10 c11
      refine lv_fixi (y := (nI a15)) ea15 ?_
      refine uIald (i := (nI a15)) (j := a15) B hP 2 rfl (nI_in (by omega) (by omega)) (nI_clamp (by omega)) dX7_readDimly_34 ?_
      obtain ⟨a16, ha16, ea16⟩ := uRnat r_R_dim a15 (by decide)
      simp only [Int32.reduceToInt] at ha16
      refine lv_fixi (y := (nI a16)) ea16 ?_
      refine lv_pc (q := 35) rfl ?_
      refine lv_iload hx hb dX7_readDimly_35 (lv_at hl 1 rfl) ?_
      refine lv_imul hx hb dX7_readDimly_37 ?_
      refine lv_iadd hx hb dX7_readDimly_38 ?_
      refine lv_istore_n (lv' := [(3, .int (y3 + ((nI a16) * y4))), (5, .int (nI j1)), (4, .int y4), (2, .int y2), (0, .ref a_R), (1, .int (nI x0))]) hx hb dX7_readDimly_39 rfl hl (by decide) rfl (fun ls hl => ?_)
      refine lv_iload hx hb dX7_readDimly_40 (lv_at hl 2 rfl) ?_
      refine lv_bipush (v := 10) hx hb dX7_readDimly_42 (by decide) ?_
      refine lv_pc (q := 44) rfl ?_
      refine lv_imul hx hb dX7_readDimly_44 ?_
      refine lv_istore (lv' := [(4, .int (y4 * 10)), (3, .int (y3 + ((nI a16) * y4))), (5, .int (nI j1)), (2, .int y2), (0, .ref a_R), (1, .int (nI x0))]) hx hb dX7_readDimly_45 hl (by decide) rfl (fun ls hl => ?_)
      refine lv_iload_n hx hb dX7_readDimly_47 rfl (lv_at hl 3 rfl) ?_
      refine lv_bipush (v := 10) hx hb dX7_readDimly_48 (by decide) ?_
      refine lv_idiv hx hb dX7_readDimly_50 (by decide) ?_
      refine lv_istore_n (lv' := [(2, .int (y2 / 10)), (4, .int (y4 * 10)), (3, .int (y3 + ((nI a16) * y4))), (5, .int (nI j1)), (0, .ref a_R), (1, .int (nI x0))]) hx hb dX7_readDimly_51 rfl hl (by decide) rfl (fun ls hl => ?_)
      refine lv_pc (q := 52) rfl ?_
      refine lv_iinc (v := nI (j1 + 1)) (lv' := [(5, .int (nI (j1 + 1))), (2, .int (y2 / 10)), (4, .int (y4 * 10)), (3, .int (y3 + ((nI a16) * y4))), (0, .ref a_R), (1, .int (nI x0))]) hx hb dX7_readDimly_52 hl (k := 3) rfl (nI_1 _) (by decide) rfl (fun ls hl => ?_)
      refine lv_goto (tgt := 15) hx hb dX7_readDimly_55 (by decide) ?_
      refine lv_pc (q := 15) rfl ?_
      refine W.widen (k := 0) (n := 0) (Nat.le_of_ble_eq_true rfl) (Nat.le_of_ble_eq_true rfl) ?_
      exact ih15 (j1 + 1) (y2 / 10) (y3 + ((nI a16) * y4)) (y4 * 10) (by omega) (by omega) _ _ _ (uSub hP [0, 1, 2] rfl) (hD.sub [0, 1, 2] rfl rfl) hS (lv_sub hl [0, 2, 3, 1, 4, 5] rfl)
  refine lv_pc (q := 15) rfl ?_
  refine W.widen (k := 0) (n := 0) (Nat.le_of_ble_eq_true rfl) (Nat.le_of_ble_eq_true rfl) ?_
  exact L6 ((5 - 0) + 1) 0 (f_R_rows x0) 0 1 (by omega) (Nat.lt_succ_self _) _ _ _ hP hD hS hl
def qwX7_minutesToSend (a_R : Nat) (v_R_words : Nat) (v_R_likes : Int32) (v_R_orders : Nat) (v_R_minutes : Int32) (v_R_look : Int32) (a_R_lengths : Nat) (f_R_lengths : Nat → Int32) (a_R_names : Nat) (a_R_rows : Nat) (a_R_dim : Nat) (a_R_orderPosts : Nat) (a_R_orderWords : Nat) (a_R_orderTwice : Nat) (a_R_actCounts : Nat) (a_R_acts : Nat) (a_R_actNumbers : Nat) (a_R_actPosts : Nat) (x0 : Nat) : Int32 → (Unit) → Prop := (fun (r : Int32) (u : Unit) => True)
def vwX7_minutesToSend (K : Nat → ClassId) (a_R : Nat) (v_R_words : Nat) (v_R_likes : Int32) (v_R_orders : Nat) (v_R_minutes : Int32) (v_R_look : Int32) (a_R_lengths : Nat) (f_R_lengths : Nat → Int32) (a_R_names : Nat) (a_R_rows : Nat) (a_R_dim : Nat) (a_R_orderPosts : Nat) (a_R_orderWords : Nat) (a_R_orderTwice : Nat) (a_R_actCounts : Nat) (a_R_acts : Nat) (a_R_actNumbers : Nat) (a_R_actPosts : Nat) (x0 : Nat) : (Unit) → va_W := (fun (u : Unit) => [(a_R, .inr (7, [.ref a_R_names, .ref a_R_rows, .ref a_R_lengths, .ref a_R_dim, .ref a_R_orderPosts, .ref a_R_orderWords, .ref a_R_orderTwice, .ref a_R_actCounts, .ref a_R_acts, .ref a_R_actNumbers, .ref a_R_actPosts, .int (nI v_R_words), .int v_R_likes, .int (nI v_R_orders), .int v_R_minutes, .int v_R_look])), (a_R_lengths, .inl (K 0, 10, .inl f_R_lengths))])
set_option maxHeartbeats 4000000 in
set_option maxRecDepth 100000 in
theorem wX7_minutesToSend (l : Launch) (D : va_G) (K : Nat → ClassId) (sz : Nat) (a_R : Nat) (v_R_words : Nat) (v_R_likes : Int32) (v_R_orders : Nat) (v_R_minutes : Int32) (v_R_look : Int32) (a_R_lengths : Nat) (f_R_lengths : Nat → Int32) (a_R_names : Nat) (a_R_rows : Nat) (a_R_dim : Nat) (a_R_orderPosts : Nat) (a_R_orderWords : Nat) (a_R_orderTwice : Nat) (a_R_actCounts : Nat) (a_R_acts : Nat) (a_R_actNumbers : Nat) (a_R_actPosts : Nat) (x0 : Nat) (hv_R_words : v_R_words ≤ 10) (hv_R_orders : v_R_orders ≤ 16) (hx0 : x0 < 10) : uMi l yX7_minutesToSend cX7_minutesToSend 2 (some .int) { frames := 0, cells := 0, slots := 0, locals := 0 } [.ref a_R, .int (nI x0)] D K [(a_R, .inr (7, [.ref a_R_names, .ref a_R_rows, .ref a_R_lengths, .ref a_R_dim, .ref a_R_orderPosts, .ref a_R_orderWords, .ref a_R_orderTwice, .ref a_R_actCounts, .ref a_R_acts, .ref a_R_actNumbers, .ref a_R_actPosts, .int (nI v_R_words), .int v_R_likes, .int (nI v_R_orders), .int v_R_minutes, .int v_R_look])), (a_R_lengths, .inl (K 0, 10, .inl f_R_lengths))] sz (qwX7_minutesToSend a_R v_R_words v_R_likes v_R_orders v_R_minutes v_R_look a_R_lengths f_R_lengths a_R_names a_R_rows a_R_dim a_R_orderPosts a_R_orderWords a_R_orderTwice a_R_actCounts a_R_acts a_R_actNumbers a_R_actPosts x0) (vwX7_minutesToSend K a_R v_R_words v_R_likes v_R_orders v_R_minutes v_R_look a_R_lengths f_R_lengths a_R_names a_R_rows a_R_dim a_R_orderPosts a_R_orderWords a_R_orderTwice a_R_actCounts a_R_acts a_R_actNumbers a_R_actPosts x0) := by
  refine uMet (Qc := uQi D (qwX7_minutesToSend a_R v_R_words v_R_likes v_R_orders v_R_minutes v_R_look a_R_lengths f_R_lengths a_R_names a_R_rows a_R_dim a_R_orderPosts a_R_orderWords a_R_orderTwice a_R_actCounts a_R_acts a_R_actNumbers a_R_actPosts x0) (vwX7_minutesToSend K a_R v_R_words v_R_likes v_R_orders v_R_minutes v_R_look a_R_lengths f_R_lengths a_R_names a_R_rows a_R_dim a_R_orderPosts a_R_orderWords a_R_orderTwice a_R_actCounts a_R_acts a_R_actNumbers a_R_actPosts x0)) (ret := (some .int)) (by decide) (Nat.le_of_ble_eq_true rfl) ?_
  intro p e s m below meth c A ls hAe hsz B hP hD hS hl
  have hx := B.1
  have hb := B.2.1
  have hl : lv_has ls 2 [(0, .ref a_R), (1, .int (nI x0))] := hl
  refine lv_aload_n hx hb dX7_minutesToSend_0 rfl (lv_at hl 0 rfl) ?_
  refine uGet (ci := 7) (C := RX7) (T := TX7) (N := 16) (v := .int v_R_look) B inlX7 hP 0 rfl rfl 15 rfl mfl_X7_60 rfl rfl dX7_minutesToSend_1 ?_
  refine lv_aload_n hx hb dX7_minutesToSend_4 rfl (lv_at hl 0 rfl) ?_
  refine uGet (ci := 7) (C := RX7) (T := TX7) (N := 16) (v := .int v_R_minutes) B inlX7 hP 0 rfl rfl 14 rfl mfl_X7_57 rfl rfl dX7_minutesToSend_5 ?_
  refine lv_aload_n hx hb dX7_minutesToSend_8 rfl (lv_at hl 0 rfl) ?_
  refine lv_pc (q := 9) rfl ?_
  refine uGet (ci := 7) (C := RX7) (T := TX7) (N := 16) (v := .ref a_R_lengths) B inlX7 hP 0 rfl rfl 2 rfl mfl_X7_19 rfl rfl dX7_minutesToSend_9 ?_
  refine lv_iload_n hx hb dX7_minutesToSend_12 rfl (lv_at hl 1 rfl) ?_
  refine uIald (i := (nI x0)) (j := x0) B hP 1 rfl (nI_in (by omega) (by omega)) (nI_clamp (by omega)) dX7_minutesToSend_13 ?_
  refine lv_imul hx hb dX7_minutesToSend_14 ?_
  refine lv_iadd hx hb dX7_minutesToSend_15 ?_
  exact uRi () B trivial (uSub hP [0, 1] rfl) (hD.sub [0, 1] rfl rfl) hS dX7_minutesToSend_16
def qwX5_exchange (a_E : Nat) (v_E_minutesTold : Int32) (v_E_lookTold : Int32) (v_E_faultSort : Int32) (v_E_faultPlace : Int32) (a_K : Nat) (a_E_orderNames : Nat) (a_E_orderPlaces : Nat) (a_E_actNames : Nat) (a_E_actPlaces : Nat) (a_RB : Nat) (x0 : Nat) (x0 : Nat) : Nat → (Unit) → Prop := (fun (r : Nat) (u : Unit) => r = a_RB)
def vwX5_exchange (K : Nat → ClassId) (a_E : Nat) (v_E_minutesTold : Int32) (v_E_lookTold : Int32) (v_E_faultSort : Int32) (v_E_faultPlace : Int32) (a_K : Nat) (a_E_orderNames : Nat) (a_E_orderPlaces : Nat) (a_E_actNames : Nat) (a_E_actPlaces : Nat) (a_RB : Nat) (x0 : Nat) (x0 : Nat) : (Unit) → va_W := (fun (u : Unit) => [(a_E, .inr (5, [.ref a_K, .ref a_E_orderNames, .ref a_E_orderPlaces, .ref a_E_actNames, .ref a_E_actPlaces, .ref x0, .int v_E_minutesTold, .int v_E_lookTold, .int v_E_faultSort, .int v_E_faultPlace]))])
set_option maxHeartbeats 4000000 in
set_option maxRecDepth 100000 in
theorem wX5_exchange (l : Launch) (D : va_G) (K : Nat → ClassId) (sz : Nat) (a_E : Nat) (v_E_minutesTold : Int32) (v_E_lookTold : Int32) (v_E_faultSort : Int32) (v_E_faultPlace : Int32) (a_K : Nat) (a_E_orderNames : Nat) (a_E_orderPlaces : Nat) (a_E_actNames : Nat) (a_E_actPlaces : Nat) (a_RB : Nat) (x0 : Nat) (x0 : Nat) (hv_E_minutesTold : v_E_minutesTold = 0 ∨ v_E_minutesTold = 1) (hv_E_lookTold : v_E_lookTold = 0 ∨ v_E_lookTold = 1) : uMr l yX5_exchange cX5_exchange 3 (some (.object "FrontierDesk$Rules")) { frames := 0, cells := 0, slots := 0, locals := 0 } [.ref a_E, .ref x0] D K [(a_E, .inr (5, [.ref a_K, .ref a_E_orderNames, .ref a_E_orderPlaces, .ref a_E_actNames, .ref a_E_actPlaces, .ref a_RB, .int v_E_minutesTold, .int v_E_lookTold, .int v_E_faultSort, .int v_E_faultPlace]))] sz (qwX5_exchange a_E v_E_minutesTold v_E_lookTold v_E_faultSort v_E_faultPlace a_K a_E_orderNames a_E_orderPlaces a_E_actNames a_E_actPlaces a_RB x0 x0) (vwX5_exchange K a_E v_E_minutesTold v_E_lookTold v_E_faultSort v_E_faultPlace a_K a_E_orderNames a_E_orderPlaces a_E_actNames a_E_actPlaces a_RB x0 x0) := by
  refine uMet (Qc := uQr D (qwX5_exchange a_E v_E_minutesTold v_E_lookTold v_E_faultSort v_E_faultPlace a_K a_E_orderNames a_E_orderPlaces a_E_actNames a_E_actPlaces a_RB x0 x0) (vwX5_exchange K a_E v_E_minutesTold v_E_lookTold v_E_faultSort v_E_faultPlace a_K a_E_orderNames a_E_orderPlaces a_E_actNames a_E_actPlaces a_RB x0 x0)) (ret := (some (.object "FrontierDesk$Rules"))) (by decide) (Nat.le_of_ble_eq_true rfl) ?_
  intro p e s m below meth c A ls hAe hsz B hP hD hS hl
  have hx := B.1
  have hb := B.2.1
  have hl : lv_has ls 3 [(0, .ref a_E), (1, .ref x0)] := hl
  refine lv_aload_n hx hb dX5_exchange_0 rfl (lv_at hl 0 rfl) ?_
  refine uGet (ci := 5) (C := RX5) (T := TX5) (N := 10) (v := .ref a_RB) B inlX5 hP 0 rfl rfl 5 rfl mfl_X5_46 rfl rfl dX5_exchange_1 ?_
  refine lv_astore_n (lv' := [(2, .ref a_RB), (0, .ref a_E), (1, .ref x0)]) hx hb dX5_exchange_4 rfl hl (by decide) rfl (fun ls hl => ?_)
  refine lv_aload_n hx hb dX5_exchange_5 rfl (lv_at hl 1 rfl) ?_
  refine lv_aload_n hx hb dX5_exchange_6 rfl (lv_at hl 2 rfl) ?_
  refine lv_pc (q := 7) rfl ?_
  refine uPut (ci := 5) (C := RX5) (T := TX5) (N := 10) (ws' := [(a_E, .inr (5, [.ref a_K, .ref a_E_orderNames, .ref a_E_orderPlaces, .ref a_E_actNames, .ref a_E_actPlaces, .ref x0, .int v_E_minutesTold, .int v_E_lookTold, .int v_E_faultSort, .int v_E_faultPlace]))]) B inlX5 tyX5_ok nmX5 hP hD hS 0 rfl rfl 5 rfl mfl_X5_46 rfl rfl rfl rfl rfl rfl dX5_exchange_7 (fun H locs hP hD hS => ?_)
  refine lv_aload_n hx hb dX5_exchange_10 rfl (lv_at hl 0 rfl) ?_
  exact uRr () B rfl (uSub hP [0] rfl) (hD.sub [0] rfl rfl) hS dX5_exchange_11

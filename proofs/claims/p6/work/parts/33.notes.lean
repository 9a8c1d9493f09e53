def qwJ7_fill_53178_vF256 (a_F256 : Nat) (f_F256 : Nat → Int32) (x1 : Int32) : ((Nat → Int32)) → Prop := (fun (u : (Nat → Int32)) => True)
def vwJ7_fill_53178_vF256 (K : Nat → ClassId) (a_F256 : Nat) (f_F256 : Nat → Int32) (x1 : Int32) : ((Nat → Int32)) → va_W := (fun (u : (Nat → Int32)) => [(a_F256, .inl (K 0, 256, .inl u))])
set_option maxHeartbeats 4000000 in
set_option maxRecDepth 100000 in
theorem wJ7_fill_53178_vF256 (l : Launch) (D : va_G) (K : Nat → ClassId) (sz : Nat) (a_F256 : Nat) (f_F256 : Nat → Int32) (x1 : Int32) : uMv l yJ7_fill_53178 cJ7_fill_53178 4 { frames := 0, cells := 0, slots := 0, locals := 0 } [.ref a_F256, .int x1] D K [(a_F256, .inl (K 0, 256, .inl f_F256))] sz (qwJ7_fill_53178_vF256 a_F256 f_F256 x1) (vwJ7_fill_53178_vF256 K a_F256 f_F256 x1) := by
  refine uMet (Qc := uQv D (qwJ7_fill_53178_vF256 a_F256 f_F256 x1) (vwJ7_fill_53178_vF256 K a_F256 f_F256 x1)) (ret := none) (by decide) (Nat.le_of_ble_eq_true rfl) ?_
  intro p e s m below meth c A ls hAe hsz B hP hD hS hl
  have hx := B.1
  have hb := B.2.1
  have hl : lv_has ls 4 [(0, .ref a_F256), (1, .int x1)] := hl
  refine lv_iconst (v := 0) hx hb dJ7_fill_53178_0 (by decide) ?_
  refine lv_istore_n (lv' := [(2, .int 0), (0, .ref a_F256), (1, .int x1)]) hx hb dJ7_fill_53178_1 rfl hl (by decide) rfl (fun ls hl => ?_)
  refine lv_aload_n hx hb dJ7_fill_53178_2 rfl (lv_at hl 1 rfl) ?_
  refine uAlen (t0 := 0) (v := 256) B hP 0 rfl rfl rfl dJ7_fill_53178_3 ?_
  refine lv_istore_n (lv' := [(3, .int 256), (2, .int 0), (0, .ref a_F256), (1, .int x1)]) hx hb dJ7_fill_53178_4 rfl hl (by decide) rfl (fun ls hl => ?_)
  have L4 : ∀ (n9 : Nat) (j1 : Nat) (f2 : Nat → Int32), (j1 ≤ 256) → 256 - j1 < n9 → ∀ (H : Heap) (locs : List Loc) (ls : Array Slot), va_P D vwCl [(a_F256, .inl (K 0, 256, .inl f2))] H → va_D A [(a_F256, .inl (K 0, 256, .inl f2))] → va_S A s.heap H locs → lv_has ls 4 [(3, .int 256), (2, .int (nI j1)), (0, .ref a_F256), (1, .int x1)] → W p l e { frames := 0, cells := 0, slots := 0, locals := 0 } s m ([.ref a_F256, .int x1] : List Value).toArray below meth c H locs 0 0 (MQ below (uQv D (qwJ7_fill_53178_vF256 a_F256 f_F256 x1) (vwJ7_fill_53178_vF256 K a_F256 f_F256 x1) A) ([.ref a_F256, .int x1] : List Value).toArray s 0 0 A) (F0 m 5 ls []) := by
    intro n9
    induction n9 with
    | zero => intros; exact absurd ‹_ < 0› (Nat.not_lt_zero _)
    | succ n5_ ih5 =>
      intro j1 f2 hj1 hm5 H locs ls hP hD hS hl
      refine lv_pc (q := 5) rfl ?_
      refine lv_iload_n hx hb dJ7_fill_53178_5 rfl (lv_at hl 1 rfl) ?_
      refine lv_iload_n hx hb dJ7_fill_53178_6 rfl (lv_at hl 0 rfl) ?_
      refine lv_icmp_ge (tgt := 20) hx hb dJ7_fill_53178_7 (by decide) (fun c5 => ?_) (fun c5 => ?_)
      · have k_5 : 256 ≤ j1 := (nI_leI (a := 256) (b := j1) (by omega) (by omega)).mp c5
        exact uRv f2 B trivial (uSub hP [0] rfl) (hD.sub [0] rfl rfl) hS dJ7_fill_53178_20
      have k_5 : ¬ 256 ≤ j1 := fun h9 => c5 ((nI_leI (a := 256) (b := j1) (by omega) (by omega)).mpr h9)
      refine lv_aload_n hx hb dJ7_fill_53178_10 rfl (lv_at hl 2 rfl) ?_
      refine lv_iload_n hx hb dJ7_fill_53178_11 rfl (lv_at hl 1 rfl) ?_
      refine lv_iload_n hx hb dJ7_fill_53178_12 rfl (lv_at hl 3 rfl) ?_
      refine lv_pc (q := 13) rfl ?_
      refine uIast (i := (nI j1)) (j := j1) (ws' := [(a_F256, .inl (K 0, 256, .inl (upd f2 j1 x1)))]) B hP hD hS 0 rfl (nI_in (by omega) (by omega)) (nI_clamp (by omega)) rfl dJ7_fill_53178_13 (fun H locs hP hD hS => ?_)
      refine lv_iinc (v := nI (j1 + 1)) (lv' := [(2, .int (nI (j1 + 1))), (3, .int 256), (0, .ref a_F256), (1, .int x1)]) hx hb dJ7_fill_53178_14 hl (k := 1) rfl (nI_1 _) (by decide) rfl (fun ls hl => ?_)
      refine lv_goto (tgt := 5) hx hb dJ7_fill_53178_17 (by decide) ?_
      refine lv_pc (q := 5) rfl ?_
      refine W.widen (k := 0) (n := 0) (Nat.le_of_ble_eq_true rfl) (Nat.le_of_ble_eq_true rfl) ?_
      exact ih5 (j1 + 1) (upd f2 j1 x1) (by omega) (by omega) _ _ _ (uSub hP [0] rfl) (hD.sub [0] rfl rfl) hS (lv_sub hl [1, 0, 2, 3] rfl)
  refine lv_pc (q := 5) rfl ?_
  refine W.widen (k := 0) (n := 0) (Nat.le_of_ble_eq_true rfl) (Nat.le_of_ble_eq_true rfl) ?_
  exact L4 ((256 - 0) + 1) 0 f_F256 (by omega) (Nat.lt_succ_self _) _ _ _ hP hD hS hl
def qwJ7_fill_53178_vF256r0_3 (a_F256r0_3 : Nat) (f_F256r0_3 : Nat → Int32) (x1 : Int32) : ((Nat → Int32)) → Prop := (fun (u : (Nat → Int32)) => (uRg u 0 3))
def vwJ7_fill_53178_vF256r0_3 (K : Nat → ClassId) (a_F256r0_3 : Nat) (f_F256r0_3 : Nat → Int32) (x1 : Int32) : ((Nat → Int32)) → va_W := (fun (u : (Nat → Int32)) => [(a_F256r0_3, .inl (K 0, 256, .inl u))])
set_option maxHeartbeats 4000000 in
set_option maxRecDepth 100000 in
theorem wJ7_fill_53178_vF256r0_3 (l : Launch) (D : va_G) (K : Nat → ClassId) (sz : Nat) (a_F256r0_3 : Nat) (f_F256r0_3 : Nat → Int32) (x1 : Int32) (r_F256r0_3 : uRg f_F256r0_3 0 3) (lx1 : 0 ≤ x1) (ux1 : x1 ≤ 3) : uMv l yJ7_fill_53178 cJ7_fill_53178 4 { frames := 0, cells := 0, slots := 0, locals := 0 } [.ref a_F256r0_3, .int x1] D K [(a_F256r0_3, .inl (K 0, 256, .inl f_F256r0_3))] sz (qwJ7_fill_53178_vF256r0_3 a_F256r0_3 f_F256r0_3 x1) (vwJ7_fill_53178_vF256r0_3 K a_F256r0_3 f_F256r0_3 x1) := by
  refine uMet (Qc := uQv D (qwJ7_fill_53178_vF256r0_3 a_F256r0_3 f_F256r0_3 x1) (vwJ7_fill_53178_vF256r0_3 K a_F256r0_3 f_F256r0_3 x1)) (ret := none) (by decide) (Nat.le_of_ble_eq_true rfl) ?_
  intro p e s m below meth c A ls hAe hsz B hP hD hS hl
  have hx := B.1
  have hb := B.2.1
  have hl : lv_has ls 4 [(0, .ref a_F256r0_3), (1, .int x1)] := hl
  refine lv_iconst (v := 0) hx hb dJ7_fill_53178_0 (by decide) ?_
  refine lv_istore_n (lv' := [(2, .int 0), (0, .ref a_F256r0_3), (1, .int x1)]) hx hb dJ7_fill_53178_1 rfl hl (by decide) rfl (fun ls hl => ?_)
  refine lv_aload_n hx hb dJ7_fill_53178_2 rfl (lv_at hl 1 rfl) ?_
  refine uAlen (t0 := 0) (v := 256) B hP 0 rfl rfl rfl dJ7_fill_53178_3 ?_
  refine lv_istore_n (lv' := [(3, .int 256), (2, .int 0), (0, .ref a_F256r0_3), (1, .int x1)]) hx hb dJ7_fill_53178_4 rfl hl (by decide) rfl (fun ls hl => ?_)
  have L4 : ∀ (n9 : Nat) (j1 : Nat) (f2 : Nat → Int32), (j1 ≤ 256) → (uRg f2 0 3) → 256 - j1 < n9 → ∀ (H : Heap) (locs : List Loc) (ls : Array Slot), va_P D vwCl [(a_F256r0_3, .inl (K 0, 256, .inl f2))] H → va_D A [(a_F256r0_3, .inl (K 0, 256, .inl f2))] → va_S A s.heap H locs → lv_has ls 4 [(3, .int 256), (2, .int (nI j1)), (0, .ref a_F256r0_3), (1, .int x1)] → W p l e { frames := 0, cells := 0, slots := 0, locals := 0 } s m ([.ref a_F256r0_3, .int x1] : List Value).toArray below meth c H locs 0 0 (MQ below (uQv D (qwJ7_fill_53178_vF256r0_3 a_F256r0_3 f_F256r0_3 x1) (vwJ7_fill_53178_vF256r0_3 K a_F256r0_3 f_F256r0_3 x1) A) ([.ref a_F256r0_3, .int x1] : List Value).toArray s 0 0 A) (F0 m 5 ls []) := by
    intro n9
    induction n9 with
    | zero => intros; exact absurd ‹_ < 0› (Nat.not_lt_zero _)
    | succ n5_ ih5 =>
      intro j1 f2 hj1 rf2 hm5 H locs ls hP hD hS hl
      refine lv_pc (q := 5) rfl ?_
      refine lv_iload_n hx hb dJ7_fill_53178_5 rfl (lv_at hl 1 rfl) ?_
      refine lv_iload_n hx hb dJ7_fill_53178_6 rfl (lv_at hl 0 rfl) ?_
      refine lv_icmp_ge (tgt := 20) hx hb dJ7_fill_53178_7 (by decide) (fun c5 => ?_) (fun c5 => ?_)
      · have k_5 : 256 ≤ j1 := (nI_leI (a := 256) (b := j1) (by omega) (by omega)).mp c5
        exact uRv f2 B rf2 (uSub hP [0] rfl) (hD.sub [0] rfl rfl) hS dJ7_fill_53178_20
      have k_5 : ¬ 256 ≤ j1 := fun h9 => c5 ((nI_leI (a := 256) (b := j1) (by omega) (by omega)).mpr h9)
      refine lv_aload_n hx hb dJ7_fill_53178_10 rfl (lv_at hl 2 rfl) ?_
      refine lv_iload_n hx hb dJ7_fill_53178_11 rfl (lv_at hl 1 rfl) ?_
      refine lv_iload_n hx hb dJ7_fill_53178_12 rfl (lv_at hl 3 rfl) ?_
      refine lv_pc (q := 13) rfl ?_
      refine uIast (i := (nI j1)) (j := j1) (ws' := [(a_F256r0_3, .inl (K 0, 256, .inl (upd f2 j1 x1)))]) B hP hD hS 0 rfl (nI_in (by omega) (by omega)) (nI_clamp (by omega)) rfl dJ7_fill_53178_13 (fun H locs hP hD hS => ?_)
      have s7 : uRg (upd f2 j1 x1) 0 3 := (uRup rf2 lx1 ux1)
      refine lv_iinc (v := nI (j1 + 1)) (lv' := [(2, .int (nI (j1 + 1))), (3, .int 256), (0, .ref a_F256r0_3), (1, .int x1)]) hx hb dJ7_fill_53178_14 hl (k := 1) rfl (nI_1 _) (by decide) rfl (fun ls hl => ?_)
      refine lv_goto (tgt := 5) hx hb dJ7_fill_53178_17 (by decide) ?_
      refine lv_pc (q := 5) rfl ?_
      refine W.widen (k := 0) (n := 0) (Nat.le_of_ble_eq_true rfl) (Nat.le_of_ble_eq_true rfl) ?_
      exact ih5 (j1 + 1) (upd f2 j1 x1) (by omega) s7 (by omega) _ _ _ (uSub hP [0] rfl) (hD.sub [0] rfl rfl) hS (lv_sub hl [1, 0, 2, 3] rfl)
  refine lv_pc (q := 5) rfl ?_
  refine W.widen (k := 0) (n := 0) (Nat.le_of_ble_eq_true rfl) (Nat.le_of_ble_eq_true rfl) ?_
  exact L4 ((256 - 0) + 1) 0 f_F256r0_3 (by omega) r_F256r0_3 (Nat.lt_succ_self _) _ _ _ hP hD hS hl
def qwX9_renew (a_T : Nat) (v_T_width : Nat) (v_T_height : Nat) (v_T_bending : Int32) (a_T_heights : Nat) (f_T_heights : Nat → Int32) (a_T_woods : Nat) (f_T_woods : Nat → Int32) (a_T_treesLow : Nat) (a_T_treesHigh : Nat) (a_T_worst : Nat) (a_T_best : Nat) (x0 : Int32) (x1 : Int32) : Int32 → (Nat × Nat × (Nat → Int32) × (Nat → Int32)) → Prop := (fun (r : Int32) (u : Nat × Nat × (Nat → Int32) × (Nat → Int32)) => ((r = 0) ∨ (r = 1)) ∧ (u.1 ≤ 16) ∧ (4 ≤ u.1) ∧ (u.2.1 ≤ 16) ∧ (4 ≤ u.2.1) ∧ (uRg u.2.2.2 0 3))
def vwX9_renew (K : Nat → ClassId) (a_T : Nat) (v_T_width : Nat) (v_T_height : Nat) (v_T_bending : Int32) (a_T_heights : Nat) (f_T_heights : Nat → Int32) (a_T_woods : Nat) (f_T_woods : Nat → Int32) (a_T_treesLow : Nat) (a_T_treesHigh : Nat) (a_T_worst : Nat) (a_T_best : Nat) (x0 : Int32) (x1 : Int32) : (Nat × Nat × (Nat → Int32) × (Nat → Int32)) → va_W := (fun (u : Nat × Nat × (Nat → Int32) × (Nat → Int32)) => [(a_T, .inr (9, [.ref a_T_heights, .ref a_T_woods, .ref a_T_treesLow, .ref a_T_treesHigh, .ref a_T_worst, .ref a_T_best, .int (nI ((u.1))), .int (nI ((u.2.1))), .int v_T_bending])), (a_T_heights, .inl (K 0, 256, .inl (u.2.2.1))), (a_T_woods, .inl (K 0, 256, .inl (u.2.2.2)))])
set_option maxHeartbeats 4000000 in
set_option maxRecDepth 100000 in
theorem wX9_renew (l : Launch) (D : va_G) (K : Nat → ClassId) (sz : Nat) (a_T : Nat) (v_T_width : Nat) (v_T_height : Nat) (v_T_bending : Int32) (a_T_heights : Nat) (f_T_heights : Nat → Int32) (a_T_woods : Nat) (f_T_woods : Nat → Int32) (a_T_treesLow : Nat) (a_T_treesHigh : Nat) (a_T_worst : Nat) (a_T_best : Nat) (x0 : Int32) (x1 : Int32) (hv_T_width : v_T_width ≤ 16) (gv_T_width : 4 ≤ v_T_width) (hv_T_height : v_T_height ≤ 16) (gv_T_height : 4 ≤ v_T_height) (r_T_woods : uRg f_T_woods 0 3) : uMi l yX9_renew cX9_renew 3 (some .boolean) { frames := 1, cells := 0, slots := 0, locals := 23 } [.ref a_T, .int x0, .int x1] D K [(a_T, .inr (9, [.ref a_T_heights, .ref a_T_woods, .ref a_T_treesLow, .ref a_T_treesHigh, .ref a_T_worst, .ref a_T_best, .int (nI v_T_width), .int (nI v_T_height), .int v_T_bending])), (a_T_heights, .inl (K 0, 256, .inl f_T_heights)), (a_T_woods, .inl (K 0, 256, .inl f_T_woods))] sz (qwX9_renew a_T v_T_width v_T_height v_T_bending a_T_heights f_T_heights a_T_woods f_T_woods a_T_treesLow a_T_treesHigh a_T_worst a_T_best x0 x1) (vwX9_renew K a_T v_T_width v_T_height v_T_bending a_T_heights f_T_heights a_T_woods f_T_woods a_T_treesLow a_T_treesHigh a_T_worst a_T_best x0 x1) := by
  refine uMet (Qc := uQi D (qwX9_renew a_T v_T_width v_T_height v_T_bending a_T_heights f_T_heights a_T_woods f_T_woods a_T_treesLow a_T_treesHigh a_T_worst a_T_best x0 x1) (vwX9_renew K a_T v_T_width v_T_height v_T_bending a_T_heights f_T_heights a_T_woods f_T_woods a_T_treesLow a_T_treesHigh a_T_worst a_T_best x0 x1)) (ret := (some .boolean)) (by decide) (Nat.le_of_ble_eq_true rfl) ?_
  intro p e s m below meth c A ls hAe hsz B hP hD hS hl
  have hx := B.1
  have hb := B.2.1
  have hl : lv_has ls 3 [(0, .ref a_T), (1, .int x0), (2, .int x1)] := hl
  refine lv_iload_n hx hb dX9_renew_0 rfl (lv_at hl 1 rfl) ?_
  refine lv_iconst (v := 4) hx hb dX9_renew_1 (by decide) ?_
  refine lv_icmp_lt (tgt := 22) hx hb dX9_renew_2 (by decide) (fun c1 => ?_) (fun c1 => ?_)
  · refine lv_iconst (v := 0) hx hb dX9_renew_22 (by decide) ?_
    exact uRz (v_T_width, v_T_height, f_T_heights, f_T_woods) B rfl ⟨Or.inl rfl, (by (try dsimp only); omega), (by (try dsimp only); omega), (by (try dsimp only); omega), (by (try dsimp only); omega), r_T_woods⟩ (uSub hP [0, 1, 2] rfl) (hD.sub [0, 1, 2] rfl rfl) hS dX9_renew_23
  refine lv_iload_n hx hb dX9_renew_5 rfl (lv_at hl 1 rfl) ?_
  refine lv_bipush (v := 16) hx hb dX9_renew_6 (by decide) ?_
  refine lv_pc (q := 8) rfl ?_
  refine lv_icmp_gt (tgt := 22) hx hb dX9_renew_8 (by decide) (fun c2 => ?_) (fun c2 => ?_)
  · refine lv_iconst (v := 0) hx hb dX9_renew_22 (by decide) ?_
    exact uRz (v_T_width, v_T_height, f_T_heights, f_T_woods) B rfl ⟨Or.inl rfl, (by (try dsimp only); omega), (by (try dsimp only); omega), (by (try dsimp only); omega), (by (try dsimp only); omega), r_T_woods⟩ (uSub hP [0, 1, 2] rfl) (hD.sub [0, 1, 2] rfl rfl) hS dX9_renew_23
  refine lv_iload_n hx hb dX9_renew_11 rfl (lv_at hl 2 rfl) ?_
  refine lv_iconst (v := 4) hx hb dX9_renew_12 (by decide) ?_
  refine lv_icmp_lt (tgt := 22) hx hb dX9_renew_13 (by decide) (fun c3 => ?_) (fun c3 => ?_)
  · refine lv_iconst (v := 0) hx hb dX9_renew_22 (by decide) ?_
    exact uRz (v_T_width, v_T_height, f_T_heights, f_T_woods) B rfl ⟨Or.inl rfl, (by (try dsimp only); omega), (by (try dsimp only); omega), (by (try dsimp only); omega), (by (try dsimp only); omega), r_T_woods⟩ (uSub hP [0, 1, 2] rfl) (hD.sub [0, 1, 2] rfl rfl) hS dX9_renew_23
  refine lv_iload_n hx hb dX9_renew_16 rfl (lv_at hl 2 rfl) ?_
  refine lv_bipush (v := 16) hx hb dX9_renew_17 (by decide) ?_
  refine lv_pc (q := 19) rfl ?_
  refine lv_icmp_le (tgt := 24) hx hb dX9_renew_19 (by decide) (fun c4 => ?_) (fun c4 => ?_)
  · obtain ⟨a5, ha5, ea5⟩ := uNatB (x := x0) (lo := 4) (hi := 16) (by simp only [fa_lt, fa_le, fa_eq, Int32.reduceToInt] at c1 c2; omega) (by simp only [fa_lt, fa_le, fa_eq, Int32.reduceToInt] at c1 c2; omega) (by decide)
    obtain ⟨a6, ha6, ea6⟩ := uNatB (x := x1) (lo := 4) (hi := 16) (by simp only [fa_lt, fa_le, fa_eq, Int32.reduceToInt] at c3 c4; omega) (by simp only [fa_lt, fa_le, fa_eq, Int32.reduceToInt] at c3 c4; omega) (by decide)
    refine lv_aload_n hx hb dX9_renew_24 rfl (lv_at hl 0 rfl) ?_
    refine lv_iload_n hx hb dX9_renew_25 rfl (lv_at hl 1 rfl) ?_
    refine lv_fixi (y := (nI a5)) ea5 ?_
    refine uPut (ci := 9) (C := RX9) (T := TX9) (N := 9) (ws' := [(a_T, .inr (9, [.ref a_T_heights, .ref a_T_woods, .ref a_T_treesLow, .ref a_T_treesHigh, .ref a_T_worst, .ref a_T_best, .int (nI a5), .int (nI v_T_height), .int v_T_bending])), (a_T_heights, .inl (K 0, 256, .inl f_T_heights)), (a_T_woods, .inl (K 0, 256, .inl f_T_woods))]) B inlX9 tyX9_ok nmX9 hP hD hS 0 rfl rfl 6 rfl mfl_X9_30 rfl rfl rfl rfl rfl rfl dX9_renew_26 (fun H locs hP hD hS => ?_)
    refine lv_aload_n hx hb dX9_renew_29 rfl (lv_at hl 0 rfl) ?_
    refine lv_iload_n hx hb dX9_renew_30 rfl (lv_at hl 2 rfl) ?_
    refine lv_fixi (y := (nI a6)) ea6 ?_
    refine lv_pc (q := 31) rfl ?_
    refine uPut (ci := 9) (C := RX9) (T := TX9) (N := 9) (ws' := [(a_T, .inr (9, [.ref a_T_heights, .ref a_T_woods, .ref a_T_treesLow, .ref a_T_treesHigh, .ref a_T_worst, .ref a_T_best, .int (nI a5), .int (nI a6), .int v_T_bending])), (a_T_heights, .inl (K 0, 256, .inl f_T_heights)), (a_T_woods, .inl (K 0, 256, .inl f_T_woods))]) B inlX9 tyX9_ok nmX9 hP hD hS 0 rfl rfl 7 rfl mfl_X9_34 rfl rfl rfl rfl rfl rfl dX9_renew_31 (fun H locs hP hD hS => ?_)
    refine lv_aload_n hx hb dX9_renew_34 rfl (lv_at hl 0 rfl) ?_
    refine uGet (ci := 9) (C := RX9) (T := TX9) (N := 9) (v := .ref a_T_heights) B inlX9 hP 0 rfl rfl 0 rfl mfl_X9_11 rfl rfl dX9_renew_35 ?_
    refine lv_iconst (v := 0) hx hb dX9_renew_38 (by decide) ?_
    refine uSv (As := [.ref a_T_heights, .int 0]) (rest := []) (wr := [(a_T, .inr (9, [.ref a_T_heights, .ref a_T_woods, .ref a_T_treesLow, .ref a_T_treesHigh, .ref a_T_worst, .ref a_T_best, .int (nI a5), .int (nI a6), .int v_T_bending])), (a_T_woods, .inl (K 0, 256, .inl f_T_woods))]) [(a_T_heights, .inl (K 0, 256, .inl f_T_heights))] B hl.1 hP hD hS [1] [0, 2] rfl rfl rfl (wJ7_fill_53178_vF256 l D K _ a_T_heights f_T_heights 0) wd_J7_fill_53178 mml_X9_40 rfl rfl ⟨Nat.le_of_ble_eq_true rfl, Nat.le_of_ble_eq_true rfl⟩ (Nat.le_of_ble_eq_true rfl) ⟨Nat.le_of_ble_eq_true rfl, Nat.le_of_ble_eq_true rfl⟩ dX9_renew_39 (fun u H locs hw hP hD hS => ?_)
    obtain ⟨u8, e9⟩ : ∃ y, y = u := ⟨_, rfl⟩
    subst e9
    try dsimp only at hw
    have hP : va_P D vwCl [(a_T, .inr (9, [.ref a_T_heights, .ref a_T_woods, .ref a_T_treesLow, .ref a_T_treesHigh, .ref a_T_worst, .ref a_T_best, .int (nI a5), .int (nI a6), .int v_T_bending])), (a_T_woods, .inl (K 0, 256, .inl f_T_woods)), (a_T_heights, .inl (K 0, 256, .inl u8))] H := hP
    have hD := uDPJ hP hD
    refine lv_aload_n hx hb dX9_renew_42 rfl (lv_at hl 0 rfl) ?_
    refine lv_pc (q := 43) rfl ?_
    refine uGet (ci := 9) (C := RX9) (T := TX9) (N := 9) (v := .ref a_T_woods) B inlX9 hP 0 rfl rfl 1 rfl mfl_X9_15 rfl rfl dX9_renew_43 ?_
    refine lv_iconst (v := 0) hx hb dX9_renew_46 (by decide) ?_
    refine uSv (As := [.ref a_T_woods, .int 0]) (rest := []) (wr := [(a_T, .inr (9, [.ref a_T_heights, .ref a_T_woods, .ref a_T_treesLow, .ref a_T_treesHigh, .ref a_T_worst, .ref a_T_best, .int (nI a5), .int (nI a6), .int v_T_bending])), (a_T_heights, .inl (K 0, 256, .inl u8))]) [(a_T_woods, .inl (K 0, 256, .inl f_T_woods))] B hl.1 hP hD hS [1] [0, 2] rfl rfl rfl (wJ7_fill_53178_vF256r0_3 l D K _ a_T_woods f_T_woods 0 r_T_woods (by decide) (by decide)) wd_J7_fill_53178 mml_X9_40 rfl rfl ⟨Nat.le_of_ble_eq_true rfl, Nat.le_of_ble_eq_true rfl⟩ (Nat.le_of_ble_eq_true rfl) ⟨Nat.le_of_ble_eq_true rfl, Nat.le_of_ble_eq_true rfl⟩ dX9_renew_47 (fun u H locs hw hP hD hS => ?_)
    obtain ⟨u10, e9⟩ : ∃ y, y = u := ⟨_, rfl⟩
    subst e9
    try dsimp only at hw
    have w11 : uRg u10 0 3 := hw
    have hP : va_P D vwCl [(a_T, .inr (9, [.ref a_T_heights, .ref a_T_woods, .ref a_T_treesLow, .ref a_T_treesHigh, .ref a_T_worst, .ref a_T_best, .int (nI a5), .int (nI a6), .int v_T_bending])), (a_T_heights, .inl (K 0, 256, .inl u8)), (a_T_woods, .inl (K 0, 256, .inl u10))] H := hP
    have hD := uDPJ hP hD
    refine lv_iconst (v := 1) hx hb dX9_renew_50 (by decide) ?_
    exact uRz (a5, a6, u8, u10) B rfl ⟨Or.inr rfl, (by (try dsimp only); omega), (by (try dsimp only); omega), (by (try dsimp only); omega), (by (try dsimp only); omega), w11⟩ (uSub hP [0, 1, 2] rfl) (hD.sub [0, 1, 2] rfl rfl) hS dX9_renew_51
  refine lv_iconst (v := 0) hx hb dX9_renew_22 (by decide) ?_
  exact uRz (v_T_width, v_T_height, f_T_heights, f_T_woods) B rfl ⟨Or.inl rfl, (by (try dsimp only); omega), (by (try dsimp only); omega), (by (try dsimp only); omega), (by (try dsimp only); omega), r_T_woods⟩ (uSub hP [0, 1, 2] rfl) (hD.sub [0, 1, 2] rfl rfl) hS dX9_renew_23
def qwX11_isSeason (x0 : Int32) (x1 : Int32) : Int32 → (Unit) → Prop := (fun (r : Int32) (u : Unit) => ((r = 0) ∨ (r = 1 ∧ (∃ a : Nat, a < 12 ∧ x0 = nI a) ∧ (∃ a : Nat, a < 2 ∧ x1 = nI a))))
def vwX11_isSeason (K : Nat → ClassId) (x0 : Int32) (x1 : Int32) : (Unit) → va_W := (fun (u : Unit) => [])
set_option maxHeartbeats 4000000 in
set_option maxRecDepth 100000 in
theorem wX11_isSeason (l : Launch) (D : va_G) (K : Nat → ClassId) (sz : Nat) (x0 : Int32) (x1 : Int32) : uMi l yX11_isSeason cX11_isSeason 2 (some .boolean) { frames := 0, cells := 0, slots := 0, locals := 0 } [.int x0, .int x1] D K [] sz (qwX11_isSeason x0 x1) (vwX11_isSeason K x0 x1) := by
  refine uMet (Qc := uQi D (qwX11_isSeason x0 x1) (vwX11_isSeason K x0 x1)) (ret := (some .boolean)) (by decide) (Nat.le_of_ble_eq_true rfl) ?_
  intro p e s m below meth c A ls hAe hsz B hP hD hS hl
  have hx := B.1
  have hb := B.2.1
  have hl : lv_has ls 2 [(0, .int x0), (1, .int x1)] := hl
  refine lv_iload_n hx hb dX11_isSeason_0 rfl (lv_at hl 0 rfl) ?_
  refine lv_if_lt (tgt := 23) hx hb dX11_isSeason_1 (by decide) (fun c1 => ?_) (fun c1 => ?_)
  · refine lv_iconst (v := 0) hx hb dX11_isSeason_23 (by decide) ?_
    exact uRz () B rfl (Or.inl rfl) (uSub hP [] rfl) (hD.sub [] rfl rfl) hS dX11_isSeason_24
  refine lv_iload_n hx hb dX11_isSeason_4 rfl (lv_at hl 0 rfl) ?_
  refine lv_bipush (v := 12) hx hb dX11_isSeason_5 (by decide) ?_
  refine lv_icmp_ge (tgt := 23) hx hb dX11_isSeason_7 (by decide) (fun c2 => ?_) (fun c2 => ?_)
  · refine lv_pc (q := 23) rfl ?_
    refine lv_iconst (v := 0) hx hb dX11_isSeason_23 (by decide) ?_
    exact uRz () B rfl (Or.inl rfl) (uSub hP [] rfl) (hD.sub [] rfl rfl) hS dX11_isSeason_24
  refine lv_pc (q := 10) rfl ?_
  refine lv_iload_n hx hb dX11_isSeason_10 rfl (lv_at hl 1 rfl) ?_
  refine lv_if_lt (tgt := 23) hx hb dX11_isSeason_11 (by decide) (fun c3 => ?_) (fun c3 => ?_)
  · refine lv_iconst (v := 0) hx hb dX11_isSeason_23 (by decide) ?_
    exact uRz () B rfl (Or.inl rfl) (uSub hP [] rfl) (hD.sub [] rfl rfl) hS dX11_isSeason_24
  refine lv_iload_n hx hb dX11_isSeason_14 rfl (lv_at hl 1 rfl) ?_
  refine lv_iconst (v := 2) hx hb dX11_isSeason_15 (by decide) ?_
  refine lv_icmp_ge (tgt := 23) hx hb dX11_isSeason_16 (by decide) (fun c4 => ?_) (fun c4 => ?_)
  · refine lv_iconst (v := 0) hx hb dX11_isSeason_23 (by decide) ?_
    refine lv_pc (q := 24) rfl ?_
    exact uRz () B rfl (Or.inl rfl) (uSub hP [] rfl) (hD.sub [] rfl rfl) hS dX11_isSeason_24
  refine lv_iconst (v := 1) hx hb dX11_isSeason_19 (by decide) ?_
  refine lv_pc (q := 20) rfl ?_
  refine lv_goto (tgt := 24) hx hb dX11_isSeason_20 (by decide) ?_
  exact uRz () B rfl (Or.inr ⟨rfl, (uNat (by simp only [fa_lt, fa_le, fa_eq, Int32.reduceToInt] at c1 c2; omega) (by simp only [fa_lt, fa_le, fa_eq, Int32.reduceToInt] at c1 c2; omega) (by decide)), (uNat (by simp only [fa_lt, fa_le, fa_eq, Int32.reduceToInt] at c3 c4; omega) (by simp only [fa_lt, fa_le, fa_eq, Int32.reduceToInt] at c3 c4; omega) (by decide))⟩) (uSub hP [] rfl) (hD.sub [] rfl rfl) hS dX11_isSeason_24
def qwX9_lay (a_T : Nat) (v_T_width : Nat) (v_T_height : Nat) (v_T_bending : Int32) (a_T_heights : Nat) (f_T_heights : Nat → Int32) (a_T_woods : Nat) (f_T_woods : Nat → Int32) (a_T_treesLow : Nat) (a_T_treesHigh : Nat) (a_T_worst : Nat) (a_T_best : Nat) (x0 : Int32) (x1 : Int32) (x2 : Int32) (x3 : Int32) (x4 : Int32) (x5 : Int32) : Int32 → ((Nat → Int32) × (Nat → Int32)) → Prop := (fun (r : Int32) (u : (Nat → Int32) × (Nat → Int32)) => ((r = 0) ∨ (r = 1)) ∧ (uRg u.2 0 3))
def vwX9_lay (K : Nat → ClassId) (a_T : Nat) (v_T_width : Nat) (v_T_height : Nat) (v_T_bending : Int32) (a_T_heights : Nat) (f_T_heights : Nat → Int32) (a_T_woods : Nat) (f_T_woods : Nat → Int32) (a_T_treesLow : Nat) (a_T_treesHigh : Nat) (a_T_worst : Nat) (a_T_best : Nat) (x0 : Int32) (x1 : Int32) (x2 : Int32) (x3 : Int32) (x4 : Int32) (x5 : Int32) : ((Nat → Int32) × (Nat → Int32)) → va_W := (fun (u : (Nat → Int32) × (Nat → Int32)) => [(a_T, .inr (9, [.ref a_T_heights, .ref a_T_woods, .ref a_T_treesLow, .ref a_T_treesHigh, .ref a_T_worst, .ref a_T_best, .int (nI v_T_width), .int (nI v_T_height), .int v_T_bending])), (a_T_heights, .inl (K 0, 256, .inl (u.1))), (a_T_woods, .inl (K 0, 256, .inl (u.2)))])
set_option maxHeartbeats 4000000 in
set_option maxRecDepth 100000 in
theorem wX9_lay (l : Launch) (D : va_G) (K : Nat → ClassId) (sz : Nat) (a_T : Nat) (v_T_width : Nat) (v_T_height : Nat) (v_T_bending : Int32) (a_T_heights : Nat) (f_T_heights : Nat → Int32) (a_T_woods : Nat) (f_T_woods : Nat → Int32) (a_T_treesLow : Nat) (a_T_treesHigh : Nat) (a_T_worst : Nat) (a_T_best : Nat) (x0 : Int32) (x1 : Int32) (x2 : Int32) (x3 : Int32) (x4 : Int32) (x5 : Int32) (hv_T_width : v_T_width ≤ 16) (gv_T_width : 4 ≤ v_T_width) (hv_T_height : v_T_height ≤ 16) (gv_T_height : 4 ≤ v_T_height) (r_T_woods : uRg f_T_woods 0 3) : uMi l yX9_lay cX9_lay 9 (some .boolean) { frames := 1, cells := 0, slots := 0, locals := 22 } [.ref a_T, .int x0, .int x1, .int x2, .int x3, .int x4, .int x5] D K [(a_T, .inr (9, [.ref a_T_heights, .ref a_T_woods, .ref a_T_treesLow, .ref a_T_treesHigh, .ref a_T_worst, .ref a_T_best, .int (nI v_T_width), .int (nI v_T_height), .int v_T_bending])), (a_T_heights, .inl (K 0, 256, .inl f_T_heights)), (a_T_woods, .inl (K 0, 256, .inl f_T_woods))] sz (qwX9_lay a_T v_T_width v_T_height v_T_bending a_T_heights f_T_heights a_T_woods f_T_woods a_T_treesLow a_T_treesHigh a_T_worst a_T_best x0 x1 x2 x3 x4 x5) (vwX9_lay K a_T v_T_width v_T_height v_T_bending a_T_heights f_T_heights a_T_woods f_T_woods a_T_treesLow a_T_treesHigh a_T_worst a_T_best x0 x1 x2 x3 x4 x5) := by
  refine uMet (Qc := uQi D (qwX9_lay a_T v_T_width v_T_height v_T_bending a_T_heights f_T_heights a_T_woods f_T_woods a_T_treesLow a_T_treesHigh a_T_worst a_T_best x0 x1 x2 x3 x4 x5) (vwX9_lay K a_T v_T_width v_T_height v_T_bending a_T_heights f_T_heights a_T_woods f_T_woods a_T_treesLow a_T_treesHigh a_T_worst a_T_best x0 x1 x2 x3 x4 x5)) (ret := (some .boolean)) (by decide) (Nat.le_of_ble_eq_true rfl) ?_
  intro p e s m below meth c A ls hAe hsz B hP hD hS hl
  have hx := B.1
  have hb := B.2.1
  have hl : lv_has ls 9 [(0, .ref a_T), (1, .int x0), (2, .int x1), (3, .int x2), (4, .int x3), (5, .int x4), (6, .int x5)] := hl
  refine lv_aload_n hx hb dX9_lay_0 rfl (lv_at hl 0 rfl) ?_
  refine lv_iload_n hx hb dX9_lay_1 rfl (lv_at hl 1 rfl) ?_
  refine lv_iload_n hx hb dX9_lay_2 rfl (lv_at hl 2 rfl) ?_
  refine uViJ (As := [.int x0, .int x1]) (rest := []) (wr := [(a_T_heights, .inl (K 0, 256, .inl f_T_heights)), (a_T_woods, .inl (K 0, 256, .inl f_T_woods))]) (wX9_has l D K _ a_T v_T_width v_T_height v_T_bending a_T_heights a_T_woods a_T_treesLow a_T_treesHigh a_T_worst a_T_best x0 x1 (by omega) (by omega) (by omega) (by omega)) B hl.1 hP hD hS [0] [1, 2] rfl rfl rfl wd_X9_has mml_X9_46 rfl rfl rfl rfl ⟨Nat.le_of_ble_eq_true rfl, Nat.le_of_ble_eq_true rfl⟩ (Nat.le_of_ble_eq_true rfl) ⟨Nat.le_of_ble_eq_true rfl, Nat.le_of_ble_eq_true rfl⟩ dX9_lay_3 (fun r1 u H locs hw hP hD hS => ?_)
  try dsimp only at hw
  have w2 := hw
  have hP : va_P D vwCl [(a_T_heights, .inl (K 0, 256, .inl f_T_heights)), (a_T_woods, .inl (K 0, 256, .inl f_T_woods)), (a_T, .inr (9, [.ref a_T_heights, .ref a_T_woods, .ref a_T_treesLow, .ref a_T_treesHigh, .ref a_T_worst, .ref a_T_best, .int (nI v_T_width), .int (nI v_T_height), .int v_T_bending]))] H := hP
  have hD := uDPJ hP hD
  rcases w2 with rfl | ⟨rfl, w3, w4⟩
  · refine lv_if_eq (tgt := 30) hx hb dX9_lay_6 (by decide) (fun _ => ?_) (fun h9 => absurd (by decide) h9)
    refine lv_pc (q := 30) rfl ?_
    refine lv_iconst (v := 0) hx hb dX9_lay_30 (by decide) ?_
    exact uRz (f_T_heights, f_T_woods) B rfl ⟨Or.inl rfl, r_T_woods⟩ (uSub hP [2, 0, 1] rfl) (hD.sub [2, 0, 1] rfl rfl) hS dX9_lay_31
  obtain ⟨a5, ha5, ea5⟩ := w3
  obtain ⟨a6, ha6, ea6⟩ := w4
  refine lv_if_eq (tgt := 30) hx hb dX9_lay_6 (by decide) (fun h9 => absurd h9 (by decide)) (fun _ => ?_)
  refine lv_pc (q := 9) rfl ?_
  refine lv_aload_n hx hb dX9_lay_9 rfl (lv_at hl 0 rfl) ?_
  refine lv_iload_n hx hb dX9_lay_10 rfl (lv_at hl 3 rfl) ?_
  refine lv_iload hx hb dX9_lay_11 (lv_at hl 4 rfl) ?_
  refine uViJ (As := [.int x2, .int x3]) (rest := []) (wr := [(a_T_heights, .inl (K 0, 256, .inl f_T_heights)), (a_T_woods, .inl (K 0, 256, .inl f_T_woods))]) (wX9_has l D K _ a_T v_T_width v_T_height v_T_bending a_T_heights a_T_woods a_T_treesLow a_T_treesHigh a_T_worst a_T_best x2 x3 (by omega) (by omega) (by omega) (by omega)) B hl.1 hP hD hS [2] [0, 1] rfl rfl rfl wd_X9_has mml_X9_46 rfl rfl rfl rfl ⟨Nat.le_of_ble_eq_true rfl, Nat.le_of_ble_eq_true rfl⟩ (Nat.le_of_ble_eq_true rfl) ⟨Nat.le_of_ble_eq_true rfl, Nat.le_of_ble_eq_true rfl⟩ dX9_lay_13 (fun r7 u H locs hw hP hD hS => ?_)
  try dsimp only at hw
  have w8 := hw
  have hP : va_P D vwCl [(a_T_heights, .inl (K 0, 256, .inl f_T_heights)), (a_T_woods, .inl (K 0, 256, .inl f_T_woods)), (a_T, .inr (9, [.ref a_T_heights, .ref a_T_woods, .ref a_T_treesLow, .ref a_T_treesHigh, .ref a_T_worst, .ref a_T_best, .int (nI v_T_width), .int (nI v_T_height), .int v_T_bending]))] H := hP
  have hD := uDPJ hP hD
  rcases w8 with rfl | ⟨rfl, w9, w10⟩
  · refine lv_if_eq (tgt := 30) hx hb dX9_lay_16 (by decide) (fun _ => ?_) (fun h9 => absurd (by decide) h9)
    refine lv_iconst (v := 0) hx hb dX9_lay_30 (by decide) ?_
    refine lv_pc (q := 31) rfl ?_
    exact uRz (f_T_heights, f_T_woods) B rfl ⟨Or.inl rfl, r_T_woods⟩ (uSub hP [2, 0, 1] rfl) (hD.sub [2, 0, 1] rfl rfl) hS dX9_lay_31
  obtain ⟨a11, ha11, ea11⟩ := w9
  obtain ⟨a12, ha12, ea12⟩ := w10
  refine lv_if_eq (tgt := 30) hx hb dX9_lay_16 (by decide) (fun h9 => absurd h9 (by decide)) (fun _ => ?_)
  refine lv_iload_n hx hb dX9_lay_19 rfl (lv_at hl 1 rfl) ?_
  refine lv_fixi (y := (nI a5)) ea5 ?_
  refine lv_pc (q := 20) rfl ?_
  refine lv_iload_n hx hb dX9_lay_20 rfl (lv_at hl 3 rfl) ?_
  refine lv_fixi (y := (nI a11)) ea11 ?_
  refine lv_icmp_gt (tgt := 30) hx hb dX9_lay_21 (by decide) (fun c13 => ?_) (fun c13 => ?_)
  · have k_13 : a11 < a5 := (nI_ltI (a := a11) (b := a5) (by omega) (by omega)).mp c13
    refine lv_iconst (v := 0) hx hb dX9_lay_30 (by decide) ?_
    exact uRz (f_T_heights, f_T_woods) B rfl ⟨Or.inl rfl, r_T_woods⟩ (uSub hP [2, 0, 1] rfl) (hD.sub [2, 0, 1] rfl rfl) hS dX9_lay_31
  have k_13 : ¬ a11 < a5 := fun h9 => c13 ((nI_ltI (a := a11) (b := a5) (by omega) (by omega)).mpr h9)
  refine lv_iload_n hx hb dX9_lay_24 rfl (lv_at hl 2 rfl) ?_
  refine lv_fixi (y := (nI a6)) ea6 ?_
  refine lv_iload hx hb dX9_lay_25 (lv_at hl 4 rfl) ?_
  refine lv_fixi (y := (nI a12)) ea12 ?_
  refine lv_icmp_le (tgt := 32) hx hb dX9_lay_27 (by decide) (fun c14 => ?_) (fun c14 => ?_)
  · have k_14 : a6 ≤ a12 := (nI_leI (a := a6) (b := a12) (by omega) (by omega)).mp c14
    refine lv_iload hx hb dX9_lay_32 (lv_at hl 5 rfl) ?_
    refine lv_pc (q := 34) rfl ?_
    refine lv_if_lt (tgt := 56) hx hb dX9_lay_34 (by decide) (fun c15 => ?_) (fun c15 => ?_)
    · refine lv_iconst (v := 0) hx hb dX9_lay_56 (by decide) ?_
      exact uRz (f_T_heights, f_T_woods) B rfl ⟨Or.inl rfl, r_T_woods⟩ (uSub hP [2, 0, 1] rfl) (hD.sub [2, 0, 1] rfl rfl) hS dX9_lay_57
    refine lv_iload hx hb dX9_lay_37 (lv_at hl 5 rfl) ?_
    refine lv_sipush (v := 999) hx hb dX9_lay_39 (by decide) ?_
    refine lv_icmp_gt (tgt := 56) hx hb dX9_lay_42 (by decide) (fun c16 => ?_) (fun c16 => ?_)
    · refine lv_iconst (v := 0) hx hb dX9_lay_56 (by decide) ?_
      exact uRz (f_T_heights, f_T_woods) B rfl ⟨Or.inl rfl, r_T_woods⟩ (uSub hP [2, 0, 1] rfl) (hD.sub [2, 0, 1] rfl rfl) hS dX9_lay_57
    refine lv_iload hx hb dX9_lay_45 (lv_at hl 6 rfl) ?_
    refine lv_if_lt (tgt := 56) hx hb dX9_lay_47 (by decide) (fun c17 => ?_) (fun c17 => ?_)
    · refine lv_pc (q := 56) rfl ?_
      refine lv_iconst (v := 0) hx hb dX9_lay_56 (by decide) ?_
      exact uRz (f_T_heights, f_T_woods) B rfl ⟨Or.inl rfl, r_T_woods⟩ (uSub hP [2, 0, 1] rfl) (hD.sub [2, 0, 1] rfl rfl) hS dX9_lay_57
    refine lv_pc (q := 50) rfl ?_
    refine lv_iload hx hb dX9_lay_50 (lv_at hl 6 rfl) ?_
    refine lv_iconst (v := 4) hx hb dX9_lay_52 (by decide) ?_
    refine lv_icmp_lt (tgt := 58) hx hb dX9_lay_53 (by decide) (fun c18 => ?_) (fun c18 => ?_)
    · refine lv_iload_n hx hb dX9_lay_58 rfl (lv_at hl 2 rfl) ?_
      refine lv_fixi (y := (nI a6)) ea6 ?_
      refine lv_istore (lv' := [(7, .int (nI a6)), (0, .ref a_T), (1, .int x0), (2, .int x1), (3, .int x2), (4, .int x3), (5, .int x4), (6, .int x5)]) hx hb dX9_lay_59 hl (by decide) rfl (fun ls hl => ?_)
      have L23 : ∀ (n9 : Nat) (j19 : Nat) (f20 : Nat → Int32) (f21 : Nat → Int32), (j19 ≤ v_T_height) → (uRg f21 0 3) → v_T_height - j19 < n9 → ∀ (H : Heap) (locs : List Loc) (ls : Array Slot), va_P D vwCl [(a_T_heights, .inl (K 0, 256, .inl f20)), (a_T_woods, .inl (K 0, 256, .inl f21)), (a_T, .inr (9, [.ref a_T_heights, .ref a_T_woods, .ref a_T_treesLow, .ref a_T_treesHigh, .ref a_T_worst, .ref a_T_best, .int (nI v_T_width), .int (nI v_T_height), .int v_T_bending]))] H → va_D A [(a_T_heights, .inl (K 0, 256, .inl f20)), (a_T_woods, .inl (K 0, 256, .inl f21)), (a_T, .inr (9, [.ref a_T_heights, .ref a_T_woods, .ref a_T_treesLow, .ref a_T_treesHigh, .ref a_T_worst, .ref a_T_best, .int (nI v_T_width), .int (nI v_T_height), .int v_T_bending]))] → va_S A s.heap H locs → lv_has ls 9 [(7, .int (nI j19)), (0, .ref a_T), (1, .int x0), (2, .int x1), (3, .int x2), (4, .int x3), (5, .int x4), (6, .int x5)] → W p l e { frames := 1, cells := 0, slots := 0, locals := 22 } s m ([.ref a_T, .int x0, .int x1, .int x2, .int x3, .int x4, .int x5] : List Value).toArray below meth c H locs 0 0 (MQ below (uQi D (qwX9_lay a_T v_T_width v_T_height v_T_bending a_T_heights f_T_heights a_T_woods f_T_woods a_T_treesLow a_T_treesHigh a_T_worst a_T_best x0 x1 x2 x3 x4 x5) (vwX9_lay K a_T v_T_width v_T_height v_T_bending a_T_heights f_T_heights a_T_woods f_T_woods a_T_treesLow a_T_treesHigh a_T_worst a_T_best x0 x1 x2 x3 x4 x5) A) ([.ref a_T, .int x0, .int x1, .int x2, .int x3, .int x4, .int x5] : List Value).toArray s 0 0 A) (F0 m 61 ls []) := by
        intro n9
        induction n9 with
        | zero => intros; exact absurd ‹_ < 0› (Nat.not_lt_zero _)
        | succ n61_ ih61 =>
          intro j19 f20 f21 hj19 rf21 hm61 H locs ls hP hD hS hl
          refine lv_iload hx hb dX9_lay_61 (lv_at hl 0 rfl) ?_
          refine lv_pc (q := 63) rfl ?_
          refine lv_iload hx hb dX9_lay_63 (lv_at hl 5 rfl) ?_
          refine lv_fixi (y := (nI a12)) ea12 ?_
          refine lv_icmp_gt (tgt := 117) hx hb dX9_lay_65 (by decide) (fun c24 => ?_) (fun c24 => ?_)
          · have k_24 : a12 < j19 := (nI_ltI (a := a12) (b := j19) (by omega) (by omega)).mp c24
            refine lv_iconst (v := 1) hx hb dX9_lay_117 (by decide) ?_
            exact uRz (f20, f21) B rfl ⟨Or.inr rfl, rf21⟩ (uSub hP [2, 0, 1] rfl) (hD.sub [2, 0, 1] rfl rfl) hS dX9_lay_118
          have k_24 : ¬ a12 < j19 := fun h9 => c24 ((nI_ltI (a := a12) (b := j19) (by omega) (by omega)).mpr h9)
          refine lv_iload_n hx hb dX9_lay_68 rfl (lv_at hl 2 rfl) ?_
          refine lv_fixi (y := (nI a5)) ea5 ?_
          refine lv_istore (lv' := [(8, .int (nI a5)), (7, .int (nI j19)), (0, .ref a_T), (1, .int x0), (2, .int x1), (3, .int x2), (4, .int x3), (5, .int x4), (6, .int x5)]) hx hb dX9_lay_69 hl (by decide) rfl (fun ls hl => ?_)
          have L29 : ∀ (n9 : Nat) (j25 : Nat) (f26 : Nat → Int32) (f27 : Nat → Int32), (j25 ≤ v_T_width) → (uRg f27 0 3) → v_T_width - j25 < n9 → ∀ (H : Heap) (locs : List Loc) (ls : Array Slot), va_P D vwCl [(a_T_heights, .inl (K 0, 256, .inl f26)), (a_T_woods, .inl (K 0, 256, .inl f27)), (a_T, .inr (9, [.ref a_T_heights, .ref a_T_woods, .ref a_T_treesLow, .ref a_T_treesHigh, .ref a_T_worst, .ref a_T_best, .int (nI v_T_width), .int (nI v_T_height), .int v_T_bending]))] H → va_D A [(a_T_heights, .inl (K 0, 256, .inl f26)), (a_T_woods, .inl (K 0, 256, .inl f27)), (a_T, .inr (9, [.ref a_T_heights, .ref a_T_woods, .ref a_T_treesLow, .ref a_T_treesHigh, .ref a_T_worst, .ref a_T_best, .int (nI v_T_width), .int (nI v_T_height), .int v_T_bending]))] → va_S A s.heap H locs → lv_has ls 9 [(8, .int (nI j25)), (7, .int (nI j19)), (0, .ref a_T), (1, .int x0), (2, .int x1), (3, .int x2), (4, .int x3), (5, .int x4), (6, .int x5)] → W p l e { frames := 1, cells := 0, slots := 0, locals := 22 } s m ([.ref a_T, .int x0, .int x1, .int x2, .int x3, .int x4, .int x5] : List Value).toArray below meth c H locs 0 0 (MQ below (uQi D (qwX9_lay a_T v_T_width v_T_height v_T_bending a_T_heights f_T_heights a_T_woods f_T_woods a_T_treesLow a_T_treesHigh a_T_worst a_T_best x0 x1 x2 x3 x4 x5) (vwX9_lay K a_T v_T_width v_T_height v_T_bending a_T_heights f_T_heights a_T_woods f_T_woods a_T_treesLow a_T_treesHigh a_T_worst a_T_best x0 x1 x2 x3 x4 x5) A) ([.ref a_T, .int x0, .int x1, .int x2, .int x3, .int x4, .int x5] : List Value).toArray s 0 0 A) (F0 m 71 ls []) := by
            intro n9
            induction n9 with
            | zero => intros; exact absurd ‹_ < 0› (Nat.not_lt_zero _)
            | succ n71_ ih71 =>
              intro j25 f26 f27 hj25 rf27 hm71 H locs ls hP hD hS hl
              refine lv_iload hx hb dX9_lay_71 (lv_at hl 0 rfl) ?_
              refine lv_iload_n hx hb dX9_lay_73 rfl (lv_at hl 5 rfl) ?_
              refine lv_fixi (y := (nI a11)) ea11 ?_
              refine lv_pc (q := 74) rfl ?_
              refine lv_icmp_gt (tgt := 111) hx hb dX9_lay_74 (by decide) (fun c30 => ?_) (fun c30 => ?_)
              · have k_30 : a11 < j25 := (nI_ltI (a := a11) (b := j25) (by omega) (by omega)).mp c30
                refine lv_iinc (v := nI (j19 + 1)) (lv' := [(7, .int (nI (j19 + 1))), (8, .int (nI j25)), (0, .ref a_T), (1, .int x0), (2, .int x1), (3, .int x2), (4, .int x3), (5, .int x4), (6, .int x5)]) hx hb dX9_lay_111 hl (k := 1) rfl (nI_1 _) (by decide) rfl (fun ls hl => ?_)
                refine lv_goto (tgt := 61) hx hb dX9_lay_114 (by decide) ?_
                refine lv_pc (q := 61) rfl ?_
                refine W.widen (k := 0) (n := 0) (Nat.le_of_ble_eq_true rfl) (Nat.le_of_ble_eq_true rfl) ?_
                exact ih61 (j19 + 1) f26 f27 (by omega) rf27 (by omega) _ _ _ (uSub hP [0, 1, 2] rfl) (hD.sub [0, 1, 2] rfl rfl) hS (lv_sub hl [0, 2, 3, 4, 5, 6, 7, 8] rfl)
              have k_30 : ¬ a11 < j25 := fun h9 => c30 ((nI_ltI (a := a11) (b := j25) (by omega) (by omega)).mpr h9)
              refine lv_aload_n hx hb dX9_lay_77 rfl (lv_at hl 2 rfl) ?_
              refine uGet (ci := 9) (C := RX9) (T := TX9) (N := 9) (v := .ref a_T_heights) B inlX9 hP 2 rfl rfl 0 rfl mfl_X9_11 rfl rfl dX9_lay_78 ?_
              refine lv_iload hx hb dX9_lay_81 (lv_at hl 0 rfl) ?_
              refine lv_iload hx hb dX9_lay_83 (lv_at hl 1 rfl) ?_
              refine uSi (As := [.int (nI j25), .int (nI j19)]) (rest := [.ref a_T_heights]) (wr := [(a_T_heights, .inl (K 0, 256, .inl f26)), (a_T_woods, .inl (K 0, 256, .inl f27)), (a_T, .inr (9, [.ref a_T_heights, .ref a_T_woods, .ref a_T_treesLow, .ref a_T_treesHigh, .ref a_T_worst, .ref a_T_best, .int (nI v_T_width), .int (nI v_T_height), .int v_T_bending]))]) [] B hl.1 hP hD hS [] [0, 1, 2] rfl rfl rfl (wX9_cell l D K _ j25 j19 (by omega) (by omega)) wd_X9_cell mml_X9_50 rfl rfl ⟨Nat.le_of_ble_eq_true rfl, Nat.le_of_ble_eq_true rfl⟩ (Nat.le_of_ble_eq_true rfl) ⟨Nat.le_of_ble_eq_true rfl, Nat.le_of_ble_eq_true rfl⟩ dX9_lay_85 (fun r31 u H locs hw hP hD hS => ?_)
              try dsimp only at hw
              have w32 := hw
              have hP : va_P D vwCl [(a_T_heights, .inl (K 0, 256, .inl f26)), (a_T_woods, .inl (K 0, 256, .inl f27)), (a_T, .inr (9, [.ref a_T_heights, .ref a_T_woods, .ref a_T_treesLow, .ref a_T_treesHigh, .ref a_T_worst, .ref a_T_best, .int (nI v_T_width), .int (nI v_T_height), .int v_T_bending]))] H := hP
              have hD := uDPJ hP hD
              obtain ⟨a33, ha33, ea33⟩ := w32
              refine lv_fixi (y := (nI a33)) ea33 ?_
              refine lv_pc (q := 88) rfl ?_
              refine lv_iload hx hb dX9_lay_88 (lv_at hl 7 rfl) ?_
              refine uIast (i := (nI a33)) (j := a33) (ws' := [(a_T_heights, .inl (K 0, 256, .inl (upd f26 a33 x4))), (a_T_woods, .inl (K 0, 256, .inl f27)), (a_T, .inr (9, [.ref a_T_heights, .ref a_T_woods, .ref a_T_treesLow, .ref a_T_treesHigh, .ref a_T_worst, .ref a_T_best, .int (nI v_T_width), .int (nI v_T_height), .int v_T_bending]))]) B hP hD hS 0 rfl (nI_in (by omega) (by omega)) (nI_clamp (by omega)) rfl dX9_lay_90 (fun H locs hP hD hS => ?_)
              refine lv_aload_n hx hb dX9_lay_91 rfl (lv_at hl 2 rfl) ?_
              refine uGet (ci := 9) (C := RX9) (T := TX9) (N := 9) (v := .ref a_T_woods) B inlX9 hP 2 rfl rfl 1 rfl mfl_X9_15 rfl rfl dX9_lay_92 ?_
              refine lv_iload hx hb dX9_lay_95 (lv_at hl 0 rfl) ?_
              refine lv_iload hx hb dX9_lay_97 (lv_at hl 1 rfl) ?_
              refine lv_pc (q := 99) rfl ?_
              refine uSi (As := [.int (nI j25), .int (nI j19)]) (rest := [.ref a_T_woods]) (wr := [(a_T_heights, .inl (K 0, 256, .inl (upd f26 a33 x4))), (a_T_woods, .inl (K 0, 256, .inl f27)), (a_T, .inr (9, [.ref a_T_heights, .ref a_T_woods, .ref a_T_treesLow, .ref a_T_treesHigh, .ref a_T_worst, .ref a_T_best, .int (nI v_T_width), .int (nI v_T_height), .int v_T_bending]))]) [] B hl.1 hP hD hS [] [0, 1, 2] rfl rfl rfl (wX9_cell l D K _ j25 j19 (by omega) (by omega)) wd_X9_cell mml_X9_50 rfl rfl ⟨Nat.le_of_ble_eq_true rfl, Nat.le_of_ble_eq_true rfl⟩ (Nat.le_of_ble_eq_true rfl) ⟨Nat.le_of_ble_eq_true rfl, Nat.le_of_ble_eq_true rfl⟩ dX9_lay_99 (fun r34 u H locs hw hP hD hS => ?_)
              try dsimp only at hw
              have w35 := hw
              have hP : va_P D vwCl [(a_T_heights, .inl (K 0, 256, .inl (upd f26 a33 x4))), (a_T_woods, .inl (K 0, 256, .inl f27)), (a_T, .inr (9, [.ref a_T_heights, .ref a_T_woods, .ref a_T_treesLow, .ref a_T_treesHigh, .ref a_T_worst, .ref a_T_best, .int (nI v_T_width), .int (nI v_T_height), .int v_T_bending]))] H := hP
              have hD := uDPJ hP hD
              obtain ⟨a36, ha36, ea36⟩ := w35
              refine lv_fixi (y := (nI a36)) ea36 ?_
              refine lv_iload hx hb dX9_lay_102 (lv_at hl 8 rfl) ?_
              refine uIast (i := (nI a36)) (j := a36) (ws' := [(a_T_heights, .inl (K 0, 256, .inl (upd f26 a33 x4))), (a_T_woods, .inl (K 0, 256, .inl (upd f27 a36 x5))), (a_T, .inr (9, [.ref a_T_heights, .ref a_T_woods, .ref a_T_treesLow, .ref a_T_treesHigh, .ref a_T_worst, .ref a_T_best, .int (nI v_T_width), .int (nI v_T_height), .int v_T_bending]))]) B hP hD hS 1 rfl (nI_in (by omega) (by omega)) (nI_clamp (by omega)) rfl dX9_lay_104 (fun H locs hP hD hS => ?_)
              have s38 : uRg (upd f27 a36 x5) 0 3 := (uRup rf27 (by simp only [fa_lt, fa_le, fa_eq, Int32.reduceToInt] at c17 c18 ⊢; omega) (by simp only [fa_lt, fa_le, fa_eq, Int32.reduceToInt] at c17 c18 ⊢; omega))
              refine lv_iinc (v := nI (j25 + 1)) (lv' := [(8, .int (nI (j25 + 1))), (7, .int (nI j19)), (0, .ref a_T), (1, .int x0), (2, .int x1), (3, .int x2), (4, .int x3), (5, .int x4), (6, .int x5)]) hx hb dX9_lay_105 hl (k := 0) rfl (nI_1 _) (by decide) rfl (fun ls hl => ?_)
              refine lv_goto (tgt := 71) hx hb dX9_lay_108 (by decide) ?_
              refine lv_pc (q := 71) rfl ?_
              refine W.widen (k := 0) (n := 0) (Nat.le_of_ble_eq_true rfl) (Nat.le_of_ble_eq_true rfl) ?_
              exact ih71 (j25 + 1) (upd f26 a33 x4) (upd f27 a36 x5) (by omega) s38 (by omega) _ _ _ (uSub hP [0, 1, 2] rfl) (hD.sub [0, 1, 2] rfl rfl) hS (lv_sub hl [0, 1, 2, 3, 4, 5, 6, 7, 8] rfl)
          refine lv_pc (q := 71) rfl ?_
          refine W.widen (k := 0) (n := 0) (Nat.le_of_ble_eq_true rfl) (Nat.le_of_ble_eq_true rfl) ?_
          exact L29 ((v_T_width - a5) + 1) a5 f20 f21 (by omega) rf21 (Nat.lt_succ_self _) _ _ _ hP hD hS hl
      refine lv_pc (q := 61) rfl ?_
      refine W.widen (k := 0) (n := 0) (Nat.le_of_ble_eq_true rfl) (Nat.le_of_ble_eq_true rfl) ?_
      exact L23 ((v_T_height - a6) + 1) a6 f_T_heights f_T_woods (by omega) r_T_woods (Nat.lt_succ_self _) _ _ _ hP hD hS hl
    refine lv_iconst (v := 0) hx hb dX9_lay_56 (by decide) ?_
    exact uRz (f_T_heights, f_T_woods) B rfl ⟨Or.inl rfl, r_T_woods⟩ (uSub hP [2, 0, 1] rfl) (hD.sub [2, 0, 1] rfl rfl) hS dX9_lay_57
  have k_14 : ¬ a6 ≤ a12 := fun h9 => c14 ((nI_leI (a := a6) (b := a12) (by omega) (by omega)).mpr h9)
  refine lv_iconst (v := 0) hx hb dX9_lay_30 (by decide) ?_
  refine lv_pc (q := 31) rfl ?_
  exact uRz (f_T_heights, f_T_woods) B rfl ⟨Or.inl rfl, r_T_woods⟩ (uSub hP [2, 0, 1] rfl) (hD.sub [2, 0, 1] rfl rfl) hS dX9_lay_31
def qwX3_clear (a_N : Nat) (v_N_size : Nat) (v_N_drawnFor : Int32) (v_N_agree : Int32) (v_N_quietUpTo : Nat) (a_N_sorts : Nat) (a_N_firsts : Nat) (a_N_seconds : Nat) (a_N_struck : Nat) (a_N_least : Nat) (a_N_greatest : Nat) : (Nat × Int32 × Nat) → Prop := (fun (u : Nat × Int32 × Nat) => (u.1 ≤ 60) ∧ (u.2.2 ≤ 60))
def vwX3_clear (K : Nat → ClassId) (a_N : Nat) (v_N_size : Nat) (v_N_drawnFor : Int32) (v_N_agree : Int32) (v_N_quietUpTo : Nat) (a_N_sorts : Nat) (a_N_firsts : Nat) (a_N_seconds : Nat) (a_N_struck : Nat) (a_N_least : Nat) (a_N_greatest : Nat) : (Nat × Int32 × Nat) → va_W := (fun (u : Nat × Int32 × Nat) => [(a_N, .inr (3, [.ref a_N_sorts, .ref a_N_firsts, .ref a_N_seconds, .ref a_N_struck, .ref a_N_least, .ref a_N_greatest, .int (nI ((u.1))), .int u.2.1, .int v_N_agree, .int (nI ((u.2.2)))]))])
set_option maxHeartbeats 4000000 in
set_option maxRecDepth 100000 in
theorem wX3_clear (l : Launch) (D : va_G) (K : Nat → ClassId) (sz : Nat) (a_N : Nat) (v_N_size : Nat) (v_N_drawnFor : Int32) (v_N_agree : Int32) (v_N_quietUpTo : Nat) (a_N_sorts : Nat) (a_N_firsts : Nat) (a_N_seconds : Nat) (a_N_struck : Nat) (a_N_least : Nat) (a_N_greatest : Nat) (hv_N_size : v_N_size ≤ 60) (hv_N_agree : v_N_agree = 0 ∨ v_N_agree = 1) (hv_N_quietUpTo : v_N_quietUpTo ≤ 60) : uMv l yX3_clear cX3_clear 1 { frames := 0, cells := 0, slots := 0, locals := 0 } [.ref a_N] D K [(a_N, .inr (3, [.ref a_N_sorts, .ref a_N_firsts, .ref a_N_seconds, .ref a_N_struck, .ref a_N_least, .ref a_N_greatest, .int (nI v_N_size), .int v_N_drawnFor, .int v_N_agree, .int (nI v_N_quietUpTo)]))] sz (qwX3_clear a_N v_N_size v_N_drawnFor v_N_agree v_N_quietUpTo a_N_sorts a_N_firsts a_N_seconds a_N_struck a_N_least a_N_greatest) (vwX3_clear K a_N v_N_size v_N_drawnFor v_N_agree v_N_quietUpTo a_N_sorts a_N_firsts a_N_seconds a_N_struck a_N_least a_N_greatest) := by
  refine uMet (Qc := uQv D (qwX3_clear a_N v_N_size v_N_drawnFor v_N_agree v_N_quietUpTo a_N_sorts a_N_firsts a_N_seconds a_N_struck a_N_least a_N_greatest) (vwX3_clear K a_N v_N_size v_N_drawnFor v_N_agree v_N_quietUpTo a_N_sorts a_N_firsts a_N_seconds a_N_struck a_N_least a_N_greatest)) (ret := none) (by decide) (Nat.le_of_ble_eq_true rfl) ?_
  intro p e s m below meth c A ls hAe hsz B hP hD hS hl
  have hx := B.1
  have hb := B.2.1
  have hl : lv_has ls 1 [(0, .ref a_N)] := hl
  refine lv_aload_n hx hb dX3_clear_0 rfl (lv_at hl 0 rfl) ?_
  refine lv_iconst (v := 0) hx hb dX3_clear_1 (by decide) ?_
  refine uPut (ci := 3) (C := RX3) (T := TX3) (N := 10) (ws' := [(a_N, .inr (3, [.ref a_N_sorts, .ref a_N_firsts, .ref a_N_seconds, .ref a_N_struck, .ref a_N_least, .ref a_N_greatest, .int 0, .int v_N_drawnFor, .int v_N_agree, .int (nI v_N_quietUpTo)]))]) B inlX3 tyX3_ok nmX3 hP hD hS 0 rfl rfl 6 rfl mfl_X3_31 rfl rfl rfl rfl rfl rfl dX3_clear_2 (fun H locs hP hD hS => ?_)
  refine lv_aload_n hx hb dX3_clear_5 rfl (lv_at hl 0 rfl) ?_
  refine lv_iconst (v := (-1)) hx hb dX3_clear_6 (by decide) ?_
  refine lv_pc (q := 7) rfl ?_
  refine uPut (ci := 3) (C := RX3) (T := TX3) (N := 10) (ws' := [(a_N, .inr (3, [.ref a_N_sorts, .ref a_N_firsts, .ref a_N_seconds, .ref a_N_struck, .ref a_N_least, .ref a_N_greatest, .int 0, .int (-1), .int v_N_agree, .int (nI v_N_quietUpTo)]))]) B inlX3 tyX3_ok nmX3 hP hD hS 0 rfl rfl 7 rfl mfl_X3_35 rfl rfl rfl rfl rfl rfl dX3_clear_7 (fun H locs hP hD hS => ?_)
  refine lv_aload_n hx hb dX3_clear_10 rfl (lv_at hl 0 rfl) ?_
  refine lv_iconst (v := 0) hx hb dX3_clear_11 (by decide) ?_
  refine uPut (ci := 3) (C := RX3) (T := TX3) (N := 10) (ws' := [(a_N, .inr (3, [.ref a_N_sorts, .ref a_N_firsts, .ref a_N_seconds, .ref a_N_struck, .ref a_N_least, .ref a_N_greatest, .int 0, .int (-1), .int v_N_agree, .int 0]))]) B inlX3 tyX3_ok nmX3 hP hD hS 0 rfl rfl 9 rfl mfl_X3_42 rfl rfl rfl rfl rfl rfl dX3_clear_12 (fun H locs hP hD hS => ?_)
  exact uRv (0, (-1), 0) B ⟨(by (try dsimp only); omega), (by (try dsimp only); omega)⟩ (uSub hP [0] rfl) (hD.sub [0] rfl rfl) hS dX3_clear_15
def qwX3_add (a_N : Nat) (v_N_size : Nat) (v_N_drawnFor : Int32) (v_N_agree : Int32) (v_N_quietUpTo : Nat) (a_N_sorts : Nat) (f_N_sorts : Nat → Int32) (a_N_firsts : Nat) (f_N_firsts : Nat → Int32) (a_N_seconds : Nat) (f_N_seconds : Nat → Int32) (a_N_struck : Nat) (a_N_least : Nat) (a_N_greatest : Nat) (x0 : Nat) (x1 : Nat) (x2 : Nat) : Int32 → (Nat × (Nat → Int32) × (Nat → Int32) × (Nat → Int32)) → Prop := (fun (r : Int32) (u : Nat × (Nat → Int32) × (Nat → Int32) × (Nat → Int32)) => (u.1 ≤ 60) ∧ (uRg u.2.1 0 6) ∧ (uRg u.2.2.1 0 59) ∧ (uRg u.2.2.2 0 500) ∧ (uNt u.2.1 u.2.2.1 u.2.2.2))
def vwX3_add (K : Nat → ClassId) (a_N : Nat) (v_N_size : Nat) (v_N_drawnFor : Int32) (v_N_agree : Int32) (v_N_quietUpTo : Nat) (a_N_sorts : Nat) (f_N_sorts : Nat → Int32) (a_N_firsts : Nat) (f_N_firsts : Nat → Int32) (a_N_seconds : Nat) (f_N_seconds : Nat → Int32) (a_N_struck : Nat) (a_N_least : Nat) (a_N_greatest : Nat) (x0 : Nat) (x1 : Nat) (x2 : Nat) : (Nat × (Nat → Int32) × (Nat → Int32) × (Nat → Int32)) → va_W := (fun (u : Nat × (Nat → Int32) × (Nat → Int32) × (Nat → Int32)) => [(a_N, .inr (3, [.ref a_N_sorts, .ref a_N_firsts, .ref a_N_seconds, .ref a_N_struck, .ref a_N_least, .ref a_N_greatest, .int (nI ((u.1))), .int v_N_drawnFor, .int v_N_agree, .int (nI v_N_quietUpTo)])), (a_N_sorts, .inl (K 0, 60, .inl (u.2.1))), (a_N_firsts, .inl (K 0, 60, .inl (u.2.2.1))), (a_N_seconds, .inl (K 0, 60, .inl (u.2.2.2)))])
set_option maxHeartbeats 4000000 in
set_option maxRecDepth 100000 in
theorem wX3_add (l : Launch) (D : va_G) (K : Nat → ClassId) (sz : Nat) (a_N : Nat) (v_N_size : Nat) (v_N_drawnFor : Int32) (v_N_agree : Int32) (v_N_quietUpTo : Nat) (a_N_sorts : Nat) (f_N_sorts : Nat → Int32) (a_N_firsts : Nat) (f_N_firsts : Nat → Int32) (a_N_seconds : Nat) (f_N_seconds : Nat → Int32) (a_N_struck : Nat) (a_N_least : Nat) (a_N_greatest : Nat) (x0 : Nat) (x1 : Nat) (x2 : Nat) (hv_N_size : v_N_size ≤ 60) (hv_N_agree : v_N_agree = 0 ∨ v_N_agree = 1) (hv_N_quietUpTo : v_N_quietUpTo ≤ 60) (r_N_sorts : uRg f_N_sorts 0 6) (r_N_firsts : uRg f_N_firsts 0 59) (r_N_seconds : uRg f_N_seconds 0 500) (hx0 : x0 < 7) (hx1 : x1 < 60) (hx2 : x2 < 501) (hpre0 : x0 = 6 ∨ x1 ≤ 11) (hpre1 : x0 = 2 ∨ x0 = 3 → x2 ≤ 11) (i_uNt : uNt f_N_sorts f_N_firsts f_N_seconds) : uMi l yX3_add cX3_add 4 (some .int) { frames := 0, cells := 0, slots := 0, locals := 0 } [.ref a_N, .int (nI x0), .int (nI x1), .int (nI x2)] D K [(a_N, .inr (3, [.ref a_N_sorts, .ref a_N_firsts, .ref a_N_seconds, .ref a_N_struck, .ref a_N_least, .ref a_N_greatest, .int (nI v_N_size), .int v_N_drawnFor, .int v_N_agree, .int (nI v_N_quietUpTo)])), (a_N_sorts, .inl (K 0, 60, .inl f_N_sorts)), (a_N_firsts, .inl (K 0, 60, .inl f_N_firsts)), (a_N_seconds, .inl (K 0, 60, .inl f_N_seconds))] sz (qwX3_add a_N v_N_size v_N_drawnFor v_N_agree v_N_quietUpTo a_N_sorts f_N_sorts a_N_firsts f_N_firsts a_N_seconds f_N_seconds a_N_struck a_N_least a_N_greatest x0 x1 x2) (vwX3_add K a_N v_N_size v_N_drawnFor v_N_agree v_N_quietUpTo a_N_sorts f_N_sorts a_N_firsts f_N_firsts a_N_seconds f_N_seconds a_N_struck a_N_least a_N_greatest x0 x1 x2) := by
  refine uMet (Qc := uQi D (qwX3_add a_N v_N_size v_N_drawnFor v_N_agree v_N_quietUpTo a_N_sorts f_N_sorts a_N_firsts f_N_firsts a_N_seconds f_N_seconds a_N_struck a_N_least a_N_greatest x0 x1 x2) (vwX3_add K a_N v_N_size v_N_drawnFor v_N_agree v_N_quietUpTo a_N_sorts f_N_sorts a_N_firsts f_N_firsts a_N_seconds f_N_seconds a_N_struck a_N_least a_N_greatest x0 x1 x2)) (ret := (some .int)) (by decide) (Nat.le_of_ble_eq_true rfl) ?_
  intro p e s m below meth c A ls hAe hsz B hP hD hS hl
  have hx := B.1
  have hb := B.2.1
  have hl : lv_has ls 4 [(0, .ref a_N), (1, .int (nI x0)), (2, .int (nI x1)), (3, .int (nI x2))] := hl
  refine lv_aload_n hx hb dX3_add_0 rfl (lv_at hl 0 rfl) ?_
  refine uGet (ci := 3) (C := RX3) (T := TX3) (N := 10) (v := .int (nI v_N_size)) B inlX3 hP 0 rfl rfl 6 rfl mfl_X3_31 rfl rfl dX3_add_1 ?_
  refine lv_bipush (v := 60) hx hb dX3_add_4 (by decide) ?_
  refine lv_icmp_lt (tgt := 11) hx hb dX3_add_6 (by decide) (fun c1 => ?_) (fun c1 => ?_)
  · have k_1 : v_N_size < 60 := (nI_ltI (a := v_N_size) (b := 60) (by omega) (by omega)).mp c1
    refine lv_aload_n hx hb dX3_add_11 rfl (lv_at hl 0 rfl) ?_
    refine lv_pc (q := 12) rfl ?_
    refine uGet (ci := 3) (C := RX3) (T := TX3) (N := 10) (v := .ref a_N_sorts) B inlX3 hP 0 rfl rfl 0 rfl mfl_X3_9 rfl rfl dX3_add_12 ?_
    refine lv_aload_n hx hb dX3_add_15 rfl (lv_at hl 0 rfl) ?_
    refine uGet (ci := 3) (C := RX3) (T := TX3) (N := 10) (v := .int (nI v_N_size)) B inlX3 hP 0 rfl rfl 6 rfl mfl_X3_31 rfl rfl dX3_add_16 ?_
    refine lv_iload_n hx hb dX3_add_19 rfl (lv_at hl 1 rfl) ?_
    refine uIast (i := (nI v_N_size)) (j := v_N_size) (ws' := [(a_N, .inr (3, [.ref a_N_sorts, .ref a_N_firsts, .ref a_N_seconds, .ref a_N_struck, .ref a_N_least, .ref a_N_greatest, .int (nI v_N_size), .int v_N_drawnFor, .int v_N_agree, .int (nI v_N_quietUpTo)])), (a_N_sorts, .inl (K 0, 60, .inl (upd f_N_sorts v_N_size (nI x0)))), (a_N_firsts, .inl (K 0, 60, .inl f_N_firsts)), (a_N_seconds, .inl (K 0, 60, .inl f_N_seconds))]) B hP hD hS 1 rfl (nI_in (by omega) (by omega)) (nI_clamp (by omega)) rfl dX3_add_20 (fun H locs hP hD hS => ?_)
    have s3 : uRg (upd f_N_sorts v_N_size (nI x0)) 0 6 := (uRup r_N_sorts (uLoN (by simp only [Int32.reduceToInt]; omega) (by omega)) (uHiN (by simp only [Int32.reduceToInt]; omega) (by omega)))
    refine lv_aload_n hx hb dX3_add_21 rfl (lv_at hl 0 rfl) ?_
    refine lv_pc (q := 22) rfl ?_
    refine uGet (ci := 3) (C := RX3) (T := TX3) (N := 10) (v := .ref a_N_firsts) B inlX3 hP 0 rfl rfl 1 rfl mfl_X3_15 rfl rfl dX3_add_22 ?_
    refine lv_aload_n hx hb dX3_add_25 rfl (lv_at hl 0 rfl) ?_
    refine uGet (ci := 3) (C := RX3) (T := TX3) (N := 10) (v := .int (nI v_N_size)) B inlX3 hP 0 rfl rfl 6 rfl mfl_X3_31 rfl rfl dX3_add_26 ?_
    refine lv_iload_n hx hb dX3_add_29 rfl (lv_at hl 2 rfl) ?_
    refine uIast (i := (nI v_N_size)) (j := v_N_size) (ws' := [(a_N, .inr (3, [.ref a_N_sorts, .ref a_N_firsts, .ref a_N_seconds, .ref a_N_struck, .ref a_N_least, .ref a_N_greatest, .int (nI v_N_size), .int v_N_drawnFor, .int v_N_agree, .int (nI v_N_quietUpTo)])), (a_N_sorts, .inl (K 0, 60, .inl (upd f_N_sorts v_N_size (nI x0)))), (a_N_firsts, .inl (K 0, 60, .inl (upd f_N_firsts v_N_size (nI x1)))), (a_N_seconds, .inl (K 0, 60, .inl f_N_seconds))]) B hP hD hS 2 rfl (nI_in (by omega) (by omega)) (nI_clamp (by omega)) rfl dX3_add_30 (fun H locs hP hD hS => ?_)
    have s5 : uRg (upd f_N_firsts v_N_size (nI x1)) 0 59 := (uRup r_N_firsts (uLoN (by simp only [Int32.reduceToInt]; omega) (by omega)) (uHiN (by simp only [Int32.reduceToInt]; omega) (by omega)))
    refine lv_aload_n hx hb dX3_add_31 rfl (lv_at hl 0 rfl) ?_
    refine lv_pc (q := 32) rfl ?_
    refine uGet (ci := 3) (C := RX3) (T := TX3) (N := 10) (v := .ref a_N_seconds) B inlX3 hP 0 rfl rfl 2 rfl mfl_X3_18 rfl rfl dX3_add_32 ?_
    refine lv_aload_n hx hb dX3_add_35 rfl (lv_at hl 0 rfl) ?_
    refine uGet (ci := 3) (C := RX3) (T := TX3) (N := 10) (v := .int (nI v_N_size)) B inlX3 hP 0 rfl rfl 6 rfl mfl_X3_31 rfl rfl dX3_add_36 ?_
    refine lv_iload_n hx hb dX3_add_39 rfl (lv_at hl 3 rfl) ?_
    refine uIast (i := (nI v_N_size)) (j := v_N_size) (ws' := [(a_N, .inr (3, [.ref a_N_sorts, .ref a_N_firsts, .ref a_N_seconds, .ref a_N_struck, .ref a_N_least, .ref a_N_greatest, .int (nI v_N_size), .int v_N_drawnFor, .int v_N_agree, .int (nI v_N_quietUpTo)])), (a_N_sorts, .inl (K 0, 60, .inl (upd f_N_sorts v_N_size (nI x0)))), (a_N_firsts, .inl (K 0, 60, .inl (upd f_N_firsts v_N_size (nI x1)))), (a_N_seconds, .inl (K 0, 60, .inl (upd f_N_seconds v_N_size (nI x2))))]) B hP hD hS 3 rfl (nI_in (by omega) (by omega)) (nI_clamp (by omega)) rfl dX3_add_40 (fun H locs hP hD hS => ?_)
    have s7 : uRg (upd f_N_seconds v_N_size (nI x2)) 0 500 := (uRup r_N_seconds (uLoN (by simp only [Int32.reduceToInt]; omega) (by omega)) (uHiN (by simp only [Int32.reduceToInt]; omega) (by omega)))
    refine lv_aload_n hx hb dX3_add_41 rfl (lv_at hl 0 rfl) ?_
    refine lv_pc (q := 42) rfl ?_
    refine lv_dup hx hb dX3_add_42 rfl ?_
    refine uGet (ci := 3) (C := RX3) (T := TX3) (N := 10) (v := .int (nI v_N_size)) B inlX3 hP 0 rfl rfl 6 rfl mfl_X3_31 rfl rfl dX3_add_43 ?_
    refine lv_iconst (v := 1) hx hb dX3_add_46 (by decide) ?_
    refine lv_iadd hx hb dX3_add_47 ?_
    refine lv_fixi (y := (nI (v_N_size + 1))) (by rw [show (1 : Int32) = nI 1 from rfl, nI_add]) ?_
    refine uPut (ci := 3) (C := RX3) (T := TX3) (N := 10) (ws' := [(a_N, .inr (3, [.ref a_N_sorts, .ref a_N_firsts, .ref a_N_seconds, .ref a_N_struck, .ref a_N_least, .ref a_N_greatest, .int (nI (v_N_size + 1)), .int v_N_drawnFor, .int v_N_agree, .int (nI v_N_quietUpTo)])), (a_N_sorts, .inl (K 0, 60, .inl (upd f_N_sorts v_N_size (nI x0)))), (a_N_firsts, .inl (K 0, 60, .inl (upd f_N_firsts v_N_size (nI x1)))), (a_N_seconds, .inl (K 0, 60, .inl (upd f_N_seconds v_N_size (nI x2))))]) B inlX3 tyX3_ok nmX3 hP hD hS 0 rfl rfl 6 rfl mfl_X3_31 rfl rfl rfl rfl rfl rfl dX3_add_48 (fun H locs hP hD hS => ?_)
    refine lv_aload_n hx hb dX3_add_51 rfl (lv_at hl 0 rfl) ?_
    refine lv_pc (q := 52) rfl ?_
    refine uGet (ci := 3) (C := RX3) (T := TX3) (N := 10) (v := .int (nI (v_N_size + 1))) B inlX3 hP 0 rfl rfl 6 rfl mfl_X3_31 rfl rfl dX3_add_52 ?_
    refine lv_iconst (v := 1) hx hb dX3_add_55 (by decide) ?_
    refine lv_isub hx hb dX3_add_56 ?_
    refine lv_fixi (y := (nI ((v_N_size + 1) - 1))) (by rw [show (1 : Int32) = nI 1 from rfl, pk_sub (by omega)]) ?_
    exact uRi (v_N_size + 1, upd f_N_sorts v_N_size (nI x0), upd f_N_firsts v_N_size (nI x1), upd f_N_seconds v_N_size (nI x2)) B ⟨(by (try dsimp only); omega), s3, s5, s7, (uNtUp i_uNt (by omega) (by omega) (by omega) hpre0 hpre1)⟩ (uSub hP [0, 1, 2, 3] rfl) (hD.sub [0, 1, 2, 3] rfl rfl) hS dX3_add_57
  have k_1 : ¬ v_N_size < 60 := fun h9 => c1 ((nI_ltI (a := v_N_size) (b := 60) (by omega) (by omega)).mpr h9)
  refine lv_iconst (v := (-1)) hx hb dX3_add_9 (by decide) ?_
  refine lv_pc (q := 10) rfl ?_
  exact uRi (v_N_size, f_N_sorts, f_N_firsts, f_N_seconds) B ⟨(by (try dsimp only); omega), r_N_sorts, r_N_firsts, r_N_seconds, i_uNt⟩ (uSub hP [0, 1, 2, 3] rfl) (hD.sub [0, 1, 2, 3] rfl rfl) hS dX3_add_10
def qwX3_canKnow (a_N : Nat) (v_N_size : Nat) (v_N_drawnFor : Int32) (v_N_agree : Int32) (v_N_quietUpTo : Nat) (a_N_sorts : Nat) (a_N_firsts : Nat) (a_N_seconds : Nat) (a_N_struck : Nat) (a_N_least : Nat) (a_N_greatest : Nat) (x0 : Int32) : Int32 → (Unit) → Prop := (fun (r : Int32) (u : Unit) => ((r = 0) ∨ (r = 1 ∧ (∃ a : Nat, a < v_N_size + 1 ∧ x0 = nI a))))
def vwX3_canKnow (K : Nat → ClassId) (a_N : Nat) (v_N_size : Nat) (v_N_drawnFor : Int32) (v_N_agree : Int32) (v_N_quietUpTo : Nat) (a_N_sorts : Nat) (a_N_firsts : Nat) (a_N_seconds : Nat) (a_N_struck : Nat) (a_N_least : Nat) (a_N_greatest : Nat) (x0 : Int32) : (Unit) → va_W := (fun (u : Unit) => [(a_N, .inr (3, [.ref a_N_sorts, .ref a_N_firsts, .ref a_N_seconds, .ref a_N_struck, .ref a_N_least, .ref a_N_greatest, .int (nI v_N_size), .int v_N_drawnFor, .int v_N_agree, .int (nI v_N_quietUpTo)]))])
set_option maxHeartbeats 4000000 in
set_option maxRecDepth 100000 in
theorem wX3_canKnow (l : Launch) (D : va_G) (K : Nat → ClassId) (sz : Nat) (a_N : Nat) (v_N_size : Nat) (v_N_drawnFor : Int32) (v_N_agree : Int32) (v_N_quietUpTo : Nat) (a_N_sorts : Nat) (a_N_firsts : Nat) (a_N_seconds : Nat) (a_N_struck : Nat) (a_N_least : Nat) (a_N_greatest : Nat) (x0 : Int32) (hv_N_size : v_N_size ≤ 60) (hv_N_agree : v_N_agree = 0 ∨ v_N_agree = 1) (hv_N_quietUpTo : v_N_quietUpTo ≤ 60) : uMi l yX3_canKnow cX3_canKnow 2 (some .boolean) { frames := 0, cells := 0, slots := 0, locals := 0 } [.ref a_N, .int x0] D K [(a_N, .inr (3, [.ref a_N_sorts, .ref a_N_firsts, .ref a_N_seconds, .ref a_N_struck, .ref a_N_least, .ref a_N_greatest, .int (nI v_N_size), .int v_N_drawnFor, .int v_N_agree, .int (nI v_N_quietUpTo)]))] sz (qwX3_canKnow a_N v_N_size v_N_drawnFor v_N_agree v_N_quietUpTo a_N_sorts a_N_firsts a_N_seconds a_N_struck a_N_least a_N_greatest x0) (vwX3_canKnow K a_N v_N_size v_N_drawnFor v_N_agree v_N_quietUpTo a_N_sorts a_N_firsts a_N_seconds a_N_struck a_N_least a_N_greatest x0) := by
  refine uMet (Qc := uQi D (qwX3_canKnow a_N v_N_size v_N_drawnFor v_N_agree v_N_quietUpTo a_N_sorts a_N_firsts a_N_seconds a_N_struck a_N_least a_N_greatest x0) (vwX3_canKnow K a_N v_N_size v_N_drawnFor v_N_agree v_N_quietUpTo a_N_sorts a_N_firsts a_N_seconds a_N_struck a_N_least a_N_greatest x0)) (ret := (some .boolean)) (by decide) (Nat.le_of_ble_eq_true rfl) ?_
  intro p e s m below meth c A ls hAe hsz B hP hD hS hl
  have hx := B.1
  have hb := B.2.1
  have hl : lv_has ls 2 [(0, .ref a_N), (1, .int x0)] := hl
  refine lv_iload_n hx hb dX3_canKnow_0 rfl (lv_at hl 1 rfl) ?_
  refine lv_if_lt (tgt := 16) hx hb dX3_canKnow_1 (by decide) (fun c1 => ?_) (fun c1 => ?_)
  · refine lv_iconst (v := 0) hx hb dX3_canKnow_16 (by decide) ?_
    exact uRz () B rfl (Or.inl rfl) (uSub hP [0] rfl) (hD.sub [0] rfl rfl) hS dX3_canKnow_17
  refine lv_iload_n hx hb dX3_canKnow_4 rfl (lv_at hl 1 rfl) ?_
  refine lv_aload_n hx hb dX3_canKnow_5 rfl (lv_at hl 0 rfl) ?_
  refine uGet (ci := 3) (C := RX3) (T := TX3) (N := 10) (v := .int (nI v_N_size)) B inlX3 hP 0 rfl rfl 6 rfl mfl_X3_31 rfl rfl dX3_canKnow_6 ?_
  refine lv_pc (q := 9) rfl ?_
  refine lv_icmp_gt (tgt := 16) hx hb dX3_canKnow_9 (by decide) (fun c2 => ?_) (fun c2 => ?_)
  · refine lv_iconst (v := 0) hx hb dX3_canKnow_16 (by decide) ?_
    exact uRz () B rfl (Or.inl rfl) (uSub hP [0] rfl) (hD.sub [0] rfl rfl) hS dX3_canKnow_17
  refine lv_iconst (v := 1) hx hb dX3_canKnow_12 (by decide) ?_
  refine lv_goto (tgt := 17) hx hb dX3_canKnow_13 (by decide) ?_
  exact uRz () B rfl (Or.inr ⟨rfl, (uNatT (by omega) c1 c2)⟩) (uSub hP [0] rfl) (hD.sub [0] rfl rfl) hS dX3_canKnow_17
def qwX3_begin (x0 : Nat) : Int32 → (Unit) → Prop := (fun (r : Int32) (u : Unit) => (∃ a : Nat, a ≤ 22 ∧ r = nI a))
def vwX3_begin (K : Nat → ClassId) (x0 : Nat) : (Unit) → va_W := (fun (u : Unit) => [])
set_option maxHeartbeats 4000000 in
set_option maxRecDepth 100000 in
theorem wX3_begin (l : Launch) (D : va_G) (K : Nat → ClassId) (sz : Nat) (x0 : Nat) (hx0 : x0 < 12) : uMi l yX3_begin cX3_begin 1 (some .int) { frames := 0, cells := 0, slots := 0, locals := 0 } [.int (nI x0)] D K [] sz (qwX3_begin x0) (vwX3_begin K x0) := by
  refine uMet (Qc := uQi D (qwX3_begin x0) (vwX3_begin K x0)) (ret := (some .int)) (by decide) (Nat.le_of_ble_eq_true rfl) ?_
  intro p e s m below meth c A ls hAe hsz B hP hD hS hl
  have hx := B.1
  have hb := B.2.1
  have hl : lv_has ls 1 [(0, .int (nI x0))] := hl
  refine lv_iconst (v := 2) hx hb dX3_begin_0 (by decide) ?_
  refine lv_iload_n hx hb dX3_begin_1 rfl (lv_at hl 0 rfl) ?_
  refine lv_imul hx hb dX3_begin_2 ?_
  refine lv_fixi (y := (nI (2 * x0))) (by rw [show (2 : Int32) = nI 2 from rfl, pk_mul]) ?_
  exact uRi () B ⟨2 * x0, by omega, rfl⟩ (uSub hP [] rfl) (hD.sub [] rfl rfl) hS dX3_begin_3
def qwX3_end (x0 : Nat) : Int32 → (Unit) → Prop := (fun (r : Int32) (u : Unit) => (∃ a : Nat, a ≤ 23 ∧ r = nI a))
def vwX3_end (K : Nat → ClassId) (x0 : Nat) : (Unit) → va_W := (fun (u : Unit) => [])
set_option maxHeartbeats 4000000 in
set_option maxRecDepth 100000 in
theorem wX3_end (l : Launch) (D : va_G) (K : Nat → ClassId) (sz : Nat) (x0 : Nat) (hx0 : x0 < 12) : uMi l yX3_end cX3_end 1 (some .int) { frames := 0, cells := 0, slots := 0, locals := 0 } [.int (nI x0)] D K [] sz (qwX3_end x0) (vwX3_end K x0) := by
  refine uMet (Qc := uQi D (qwX3_end x0) (vwX3_end K x0)) (ret := (some .int)) (by decide) (Nat.le_of_ble_eq_true rfl) ?_
  intro p e s m below meth c A ls hAe hsz B hP hD hS hl
  have hx := B.1
  have hb := B.2.1
  have hl : lv_has ls 1 [(0, .int (nI x0))] := hl
  refine lv_iconst (v := 2) hx hb dX3_end_0 (by decide) ?_
  refine lv_iload_n hx hb dX3_end_1 rfl (lv_at hl 0 rfl) ?_
  refine lv_imul hx hb dX3_end_2 ?_
  refine lv_fixi (y := (nI (2 * x0))) (by rw [show (2 : Int32) = nI 2 from rfl, pk_mul]) ?_
  refine lv_iconst (v := 1) hx hb dX3_end_3 (by decide) ?_
  refine lv_iadd hx hb dX3_end_4 ?_
  refine lv_fixi (y := (nI ((2 * x0) + 1))) (by rw [show (1 : Int32) = nI 1 from rfl, nI_add]) ?_
  refine lv_pc (q := 5) rfl ?_
  exact uRi () B ⟨(2 * x0) + 1, by omega, rfl⟩ (uSub hP [] rfl) (hD.sub [] rfl rfl) hS dX3_end_5
def qwX3_markStruck (a_N : Nat) (v_N_size : Nat) (v_N_drawnFor : Int32) (v_N_agree : Int32) (v_N_quietUpTo : Nat) (a_N_sorts : Nat) (f_N_sorts : Nat → Int32) (a_N_firsts : Nat) (f_N_firsts : Nat → Int32) (a_N_struck : Nat) (f_N_struck : Nat → Int32) (a_N_seconds : Nat) (a_N_least : Nat) (a_N_greatest : Nat) (x0 : Nat) : ((Nat → Int32)) → Prop := (fun (u : (Nat → Int32)) => (∀ k, u k = 0 ∨ u k = 1))
def vwX3_markStruck (K : Nat → ClassId) (a_N : Nat) (v_N_size : Nat) (v_N_drawnFor : Int32) (v_N_agree : Int32) (v_N_quietUpTo : Nat) (a_N_sorts : Nat) (f_N_sorts : Nat → Int32) (a_N_firsts : Nat) (f_N_firsts : Nat → Int32) (a_N_struck : Nat) (f_N_struck : Nat → Int32) (a_N_seconds : Nat) (a_N_least : Nat) (a_N_greatest : Nat) (x0 : Nat) : ((Nat → Int32)) → va_W := (fun (u : (Nat → Int32)) => [(a_N, .inr (3, [.ref a_N_sorts, .ref a_N_firsts, .ref a_N_seconds, .ref a_N_struck, .ref a_N_least, .ref a_N_greatest, .int (nI v_N_size), .int v_N_drawnFor, .int v_N_agree, .int (nI v_N_quietUpTo)])), (a_N_sorts, .inl (K 0, 60, .inl f_N_sorts)), (a_N_firsts, .inl (K 0, 60, .inl f_N_firsts)), (a_N_struck, .inl (K 1, 60, .inl u))])
set_option maxHeartbeats 4000000 in
set_option maxRecDepth 100000 in
theorem wX3_markStruck (l : Launch) (D : va_G) (K : Nat → ClassId) (sz : Nat) (a_N : Nat) (v_N_size : Nat) (v_N_drawnFor : Int32) (v_N_agree : Int32) (v_N_quietUpTo : Nat) (a_N_sorts : Nat) (f_N_sorts : Nat → Int32) (a_N_firsts : Nat) (f_N_firsts : Nat → Int32) (a_N_struck : Nat) (f_N_struck : Nat → Int32) (a_N_seconds : Nat) (a_N_least : Nat) (a_N_greatest : Nat) (x0 : Nat) (hv_N_size : v_N_size ≤ 60) (hv_N_agree : v_N_agree = 0 ∨ v_N_agree = 1) (hv_N_quietUpTo : v_N_quietUpTo ≤ 60) (r_N_sorts : uRg f_N_sorts 0 6) (r_N_firsts : uRg f_N_firsts 0 59) (b_N_struck : ∀ k, f_N_struck k = 0 ∨ f_N_struck k = 1) (hx0 : x0 < 61) : uMv l yX3_markStruck cX3_markStruck 3 { frames := 0, cells := 0, slots := 0, locals := 0 } [.ref a_N, .int (nI x0)] D K [(a_N, .inr (3, [.ref a_N_sorts, .ref a_N_firsts, .ref a_N_seconds, .ref a_N_struck, .ref a_N_least, .ref a_N_greatest, .int (nI v_N_size), .int v_N_drawnFor, .int v_N_agree, .int (nI v_N_quietUpTo)])), (a_N_sorts, .inl (K 0, 60, .inl f_N_sorts)), (a_N_firsts, .inl (K 0, 60, .inl f_N_firsts)), (a_N_struck, .inl (K 1, 60, .inl f_N_struck))] sz (qwX3_markStruck a_N v_N_size v_N_drawnFor v_N_agree v_N_quietUpTo a_N_sorts f_N_sorts a_N_firsts f_N_firsts a_N_struck f_N_struck a_N_seconds a_N_least a_N_greatest x0) (vwX3_markStruck K a_N v_N_size v_N_drawnFor v_N_agree v_N_quietUpTo a_N_sorts f_N_sorts a_N_firsts f_N_firsts a_N_struck f_N_struck a_N_seconds a_N_least a_N_greatest x0) := by
  refine uMet (Qc := uQv D (qwX3_markStruck a_N v_N_size v_N_drawnFor v_N_agree v_N_quietUpTo a_N_sorts f_N_sorts a_N_firsts f_N_firsts a_N_struck f_N_struck a_N_seconds a_N_least a_N_greatest x0) (vwX3_markStruck K a_N v_N_size v_N_drawnFor v_N_agree v_N_quietUpTo a_N_sorts f_N_sorts a_N_firsts f_N_firsts a_N_struck f_N_struck a_N_seconds a_N_least a_N_greatest x0)) (ret := none) (by decide) (Nat.le_of_ble_eq_true rfl) ?_
  intro p e s m below meth c A ls hAe hsz B hP hD hS hl
  have hx := B.1
  have hb := B.2.1
  have hl : lv_has ls 3 [(0, .ref a_N), (1, .int (nI x0))] := hl
  refine lv_iconst (v := 0) hx hb dX3_markStruck_0 (by decide) ?_
  refine lv_istore_n (lv' := [(2, .int 0), (0, .ref a_N), (1, .int (nI x0))]) hx hb dX3_markStruck_1 rfl hl (by decide) rfl (fun ls hl => ?_)
  have L4 : ∀ (n9 : Nat) (j1 : Nat) (f2 : Nat → Int32), (j1 ≤ x0) → (∀ k, f2 k = 0 ∨ f2 k = 1) → x0 - j1 < n9 → ∀ (H : Heap) (locs : List Loc) (ls : Array Slot), va_P D vwCl [(a_N, .inr (3, [.ref a_N_sorts, .ref a_N_firsts, .ref a_N_seconds, .ref a_N_struck, .ref a_N_least, .ref a_N_greatest, .int (nI v_N_size), .int v_N_drawnFor, .int v_N_agree, .int (nI v_N_quietUpTo)])), (a_N_sorts, .inl (K 0, 60, .inl f_N_sorts)), (a_N_firsts, .inl (K 0, 60, .inl f_N_firsts)), (a_N_struck, .inl (K 1, 60, .inl f2))] H → va_D A [(a_N, .inr (3, [.ref a_N_sorts, .ref a_N_firsts, .ref a_N_seconds, .ref a_N_struck, .ref a_N_least, .ref a_N_greatest, .int (nI v_N_size), .int v_N_drawnFor, .int v_N_agree, .int (nI v_N_quietUpTo)])), (a_N_sorts, .inl (K 0, 60, .inl f_N_sorts)), (a_N_firsts, .inl (K 0, 60, .inl f_N_firsts)), (a_N_struck, .inl (K 1, 60, .inl f2))] → va_S A s.heap H locs → lv_has ls 3 [(2, .int (nI j1)), (0, .ref a_N), (1, .int (nI x0))] → W p l e { frames := 0, cells := 0, slots := 0, locals := 0 } s m ([.ref a_N, .int (nI x0)] : List Value).toArray below meth c H locs 0 0 (MQ below (uQv D (qwX3_markStruck a_N v_N_size v_N_drawnFor v_N_agree v_N_quietUpTo a_N_sorts f_N_sorts a_N_firsts f_N_firsts a_N_struck f_N_struck a_N_seconds a_N_least a_N_greatest x0) (vwX3_markStruck K a_N v_N_size v_N_drawnFor v_N_agree v_N_quietUpTo a_N_sorts f_N_sorts a_N_firsts f_N_firsts a_N_struck f_N_struck a_N_seconds a_N_least a_N_greatest x0) A) ([.ref a_N, .int (nI x0)] : List Value).toArray s 0 0 A) (F0 m 2 ls []) := by
    intro n9
    induction n9 with
    | zero => intros; exact absurd ‹_ < 0› (Nat.not_lt_zero _)
    | succ n2_ ih2 =>
      intro j1 f2 hj1 bf2 hm2 H locs ls hP hD hS hl
      refine lv_iload_n hx hb dX3_markStruck_2 rfl (lv_at hl 0 rfl) ?_
      refine lv_iload_n hx hb dX3_markStruck_3 rfl (lv_at hl 2 rfl) ?_
      refine lv_icmp_ge (tgt := 20) hx hb dX3_markStruck_4 (by decide) (fun c5 => ?_) (fun c5 => ?_)
      · have k_5 : x0 ≤ j1 := (nI_leI (a := x0) (b := j1) (by omega) (by omega)).mp c5
        refine lv_pc (q := 20) rfl ?_
        refine lv_iload_n hx hb dX3_markStruck_20 rfl (lv_at hl 2 rfl) ?_
        refine lv_iconst (v := 1) hx hb dX3_markStruck_21 (by decide) ?_
        refine lv_isub hx hb dX3_markStruck_22 ?_
        refine lv_istore_n (lv' := [(2, .int ((nI x0) - 1)), (0, .ref a_N), (1, .int (nI x0))]) hx hb dX3_markStruck_23 rfl hl (by decide) rfl (fun ls hl => ?_)
        have L9 : ∀ (n9 : Nat) (j6 : Nat) (f7 : Nat → Int32), (j6 ≤ 60) → (∀ k, f7 k = 0 ∨ f7 k = 1) → j6 < n9 → ∀ (H : Heap) (locs : List Loc) (ls : Array Slot), va_P D vwCl [(a_N, .inr (3, [.ref a_N_sorts, .ref a_N_firsts, .ref a_N_seconds, .ref a_N_struck, .ref a_N_least, .ref a_N_greatest, .int (nI v_N_size), .int v_N_drawnFor, .int v_N_agree, .int (nI v_N_quietUpTo)])), (a_N_sorts, .inl (K 0, 60, .inl f_N_sorts)), (a_N_firsts, .inl (K 0, 60, .inl f_N_firsts)), (a_N_struck, .inl (K 1, 60, .inl f7))] H → va_D A [(a_N, .inr (3, [.ref a_N_sorts, .ref a_N_firsts, .ref a_N_seconds, .ref a_N_struck, .ref a_N_least, .ref a_N_greatest, .int (nI v_N_size), .int v_N_drawnFor, .int v_N_agree, .int (nI v_N_quietUpTo)])), (a_N_sorts, .inl (K 0, 60, .inl f_N_sorts)), (a_N_firsts, .inl (K 0, 60, .inl f_N_firsts)), (a_N_struck, .inl (K 1, 60, .inl f7))] → va_S A s.heap H locs → lv_has ls 3 [(2, .int (nI j6 - 1)), (0, .ref a_N), (1, .int (nI x0))] → W p l e { frames := 0, cells := 0, slots := 0, locals := 0 } s m ([.ref a_N, .int (nI x0)] : List Value).toArray below meth c H locs 0 0 (MQ below (uQv D (qwX3_markStruck a_N v_N_size v_N_drawnFor v_N_agree v_N_quietUpTo a_N_sorts f_N_sorts a_N_firsts f_N_firsts a_N_struck f_N_struck a_N_seconds a_N_least a_N_greatest x0) (vwX3_markStruck K a_N v_N_size v_N_drawnFor v_N_agree v_N_quietUpTo a_N_sorts f_N_sorts a_N_firsts f_N_firsts a_N_struck f_N_struck a_N_seconds a_N_least a_N_greatest x0) A) ([.ref a_N, .int (nI x0)] : List Value).toArray s 0 0 A) (F0 m 24 ls []) := by
          intro n9
          induction n9 with
          | zero => intros; exact absurd ‹_ < 0› (Nat.not_lt_zero _)
          | succ n24_ ih24 =>
            intro j6 f7 hj6 bf7 hm24 H locs ls hP hD hS hl
            refine lv_iload_n hx hb dX3_markStruck_24 rfl (lv_at hl 0 rfl) ?_
            refine lv_if_lt (tgt := 66) hx hb dX3_markStruck_25 (by decide) (fun c10 => ?_) (fun c10 => ?_)
            · refine lv_pc (q := 66) rfl ?_
              exact uRv f7 B bf7 (uSub hP [0, 1, 2, 3] rfl) (hD.sub [0, 1, 2, 3] rfl rfl) hS dX3_markStruck_66
            refine lv_pc (q := 28) rfl ?_
            have o11 : 1 ≤ j6 := uDn1 (by omega) c10
            have e12 : nI j6 - 1 = nI (j6 - 1) := uDn0 o11
            refine lv_aload_n hx hb dX3_markStruck_28 rfl (lv_at hl 1 rfl) ?_
            refine uGet (ci := 3) (C := RX3) (T := TX3) (N := 10) (v := .ref a_N_sorts) B inlX3 hP 0 rfl rfl 0 rfl mfl_X3_9 rfl rfl dX3_markStruck_29 ?_
            refine lv_iload_n hx hb dX3_markStruck_32 rfl (lv_at hl 0 rfl) ?_
            refine lv_fixi (y := (nI (j6 - 1))) e12 ?_
            refine uIald (i := (nI (j6 - 1))) (j := j6 - 1) B hP 1 rfl (nI_in (by omega) (by omega)) (nI_clamp (by omega)) dX3_markStruck_33 ?_
            obtain ⟨a13, ha13, ea13⟩ := uRnat r_N_sorts (j6 - 1) (by decide)
            simp only [Int32.reduceToInt] at ha13
            refine lv_fixi (y := (nI a13)) ea13 ?_
            refine lv_bipush (v := 6) hx hb dX3_markStruck_34 (by decide) ?_
            refine lv_icmp_ne (tgt := 60) hx hb dX3_markStruck_36 (by decide) (fun c14 => ?_) (fun c14 => ?_)
            · have k_14 : ¬ a13 = 6 := fun h9 => c14 ((nI_eq (a := a13) (b := 6) (by omega) (by omega)).mpr h9)
              refine lv_pc (q := 60) rfl ?_
              refine lv_iinc (v := nI (j6 - 1) - 1) (lv' := [(2, .int (nI (j6 - 1) - 1)), (0, .ref a_N), (1, .int (nI x0))]) hx hb dX3_markStruck_60 hl (k := 0) rfl (uDn (by omega)) (by decide) rfl (fun ls hl => ?_)
              refine lv_goto (tgt := 24) hx hb dX3_markStruck_63 (by decide) ?_
              refine lv_pc (q := 24) rfl ?_
              refine W.widen (k := 0) (n := 0) (Nat.le_of_ble_eq_true rfl) (Nat.le_of_ble_eq_true rfl) ?_
              exact ih24 (j6 - 1) f7 (by omega) bf7 (by omega) _ _ _ (uSub hP [0, 1, 2, 3] rfl) (hD.sub [0, 1, 2, 3] rfl rfl) hS (lv_sub hl [0, 1, 2] rfl)
            have k_14 : a13 = 6 := (nI_eq (a := a13) (b := 6) (by omega) (by omega)).mp c14
            refine lv_pc (q := 39) rfl ?_
            refine lv_aload_n hx hb dX3_markStruck_39 rfl (lv_at hl 1 rfl) ?_
            refine uGet (ci := 3) (C := RX3) (T := TX3) (N := 10) (v := .ref a_N_struck) B inlX3 hP 0 rfl rfl 3 rfl mfl_X3_21 rfl rfl dX3_markStruck_40 ?_
            refine lv_iload_n hx hb dX3_markStruck_43 rfl (lv_at hl 0 rfl) ?_
            refine lv_fixi (y := (nI (j6 - 1))) e12 ?_
            refine uZald (i := (nI (j6 - 1))) (j := j6 - 1) B hP 3 rfl (nI_in (by omega) (by omega)) (nI_clamp (by omega)) dX3_markStruck_44 ?_
            refine lv_if_ne (tgt := 60) hx hb dX3_markStruck_45 (by decide) (fun c15 => ?_) (fun c15 => ?_)
            · refine lv_iinc (v := nI (j6 - 1) - 1) (lv' := [(2, .int (nI (j6 - 1) - 1)), (0, .ref a_N), (1, .int (nI x0))]) hx hb dX3_markStruck_60 hl (k := 0) rfl (uDn (by omega)) (by decide) rfl (fun ls hl => ?_)
              refine lv_pc (q := 63) rfl ?_
              refine lv_goto (tgt := 24) hx hb dX3_markStruck_63 (by decide) ?_
              refine lv_pc (q := 24) rfl ?_
              refine W.widen (k := 0) (n := 0) (Nat.le_of_ble_eq_true rfl) (Nat.le_of_ble_eq_true rfl) ?_
              exact ih24 (j6 - 1) f7 (by omega) bf7 (by omega) _ _ _ (uSub hP [0, 1, 2, 3] rfl) (hD.sub [0, 1, 2, 3] rfl rfl) hS (lv_sub hl [0, 1, 2] rfl)
            refine lv_aload_n hx hb dX3_markStruck_48 rfl (lv_at hl 1 rfl) ?_
            refine lv_pc (q := 49) rfl ?_
            refine uGet (ci := 3) (C := RX3) (T := TX3) (N := 10) (v := .ref a_N_struck) B inlX3 hP 0 rfl rfl 3 rfl mfl_X3_21 rfl rfl dX3_markStruck_49 ?_
            refine lv_aload_n hx hb dX3_markStruck_52 rfl (lv_at hl 1 rfl) ?_
            refine uGet (ci := 3) (C := RX3) (T := TX3) (N := 10) (v := .ref a_N_firsts) B inlX3 hP 0 rfl rfl 1 rfl mfl_X3_15 rfl rfl dX3_markStruck_53 ?_
            refine lv_iload_n hx hb dX3_markStruck_56 rfl (lv_at hl 0 rfl) ?_
            refine lv_fixi (y := (nI (j6 - 1))) e12 ?_
            refine uIald (i := (nI (j6 - 1))) (j := j6 - 1) B hP 2 rfl (nI_in (by omega) (by omega)) (nI_clamp (by omega)) dX3_markStruck_57 ?_
            obtain ⟨a16, ha16, ea16⟩ := uRnat r_N_firsts (j6 - 1) (by decide)
            simp only [Int32.reduceToInt] at ha16
            refine lv_fixi (y := (nI a16)) ea16 ?_
            refine lv_iconst (v := 1) hx hb dX3_markStruck_58 (by decide) ?_
            refine lv_pc (q := 59) rfl ?_
            refine uZast (i := (nI a16)) (j := a16) (ws' := [(a_N, .inr (3, [.ref a_N_sorts, .ref a_N_firsts, .ref a_N_seconds, .ref a_N_struck, .ref a_N_least, .ref a_N_greatest, .int (nI v_N_size), .int v_N_drawnFor, .int v_N_agree, .int (nI v_N_quietUpTo)])), (a_N_sorts, .inl (K 0, 60, .inl f_N_sorts)), (a_N_firsts, .inl (K 0, 60, .inl f_N_firsts)), (a_N_struck, .inl (K 1, 60, .inl (upd f7 a16 1)))]) B hP hD hS 3 rfl (nI_in (by omega) (by omega)) (nI_clamp (by omega)) rfl rfl dX3_markStruck_59 (fun H locs hP hD hS => ?_)
            refine lv_iinc (v := nI (j6 - 1) - 1) (lv' := [(2, .int (nI (j6 - 1) - 1)), (0, .ref a_N), (1, .int (nI x0))]) hx hb dX3_markStruck_60 hl (k := 0) rfl (uDn (by omega)) (by decide) rfl (fun ls hl => ?_)
            refine lv_goto (tgt := 24) hx hb dX3_markStruck_63 (by decide) ?_
            refine lv_pc (q := 24) rfl ?_
            refine W.widen (k := 0) (n := 0) (Nat.le_of_ble_eq_true rfl) (Nat.le_of_ble_eq_true rfl) ?_
            exact ih24 (j6 - 1) (upd f7 a16 1) (by omega) (uBup bf7 (by decide)) (by omega) _ _ _ (uSub hP [0, 1, 2, 3] rfl) (hD.sub [0, 1, 2, 3] rfl rfl) hS (lv_sub hl [0, 1, 2] rfl)
        refine lv_pc (q := 24) rfl ?_
        refine W.widen (k := 0) (n := 0) (Nat.le_of_ble_eq_true rfl) (Nat.le_of_ble_eq_true rfl) ?_
        exact L9 ((x0) + 1) x0 f2 (by omega) bf2 (Nat.lt_succ_self _) _ _ _ hP hD hS hl
      have k_5 : ¬ x0 ≤ j1 := fun h9 => c5 ((nI_leI (a := x0) (b := j1) (by omega) (by omega)).mpr h9)
      refine lv_pc (q := 7) rfl ?_
      refine lv_aload_n hx hb dX3_markStruck_7 rfl (lv_at hl 1 rfl) ?_
      refine uGet (ci := 3) (C := RX3) (T := TX3) (N := 10) (v := .ref a_N_struck) B inlX3 hP 0 rfl rfl 3 rfl mfl_X3_21 rfl rfl dX3_markStruck_8 ?_
      refine lv_iload_n hx hb dX3_markStruck_11 rfl (lv_at hl 0 rfl) ?_
      refine lv_iconst (v := 0) hx hb dX3_markStruck_12 (by decide) ?_
      refine uZast (i := (nI j1)) (j := j1) (ws' := [(a_N, .inr (3, [.ref a_N_sorts, .ref a_N_firsts, .ref a_N_seconds, .ref a_N_struck, .ref a_N_least, .ref a_N_greatest, .int (nI v_N_size), .int v_N_drawnFor, .int v_N_agree, .int (nI v_N_quietUpTo)])), (a_N_sorts, .inl (K 0, 60, .inl f_N_sorts)), (a_N_firsts, .inl (K 0, 60, .inl f_N_firsts)), (a_N_struck, .inl (K 1, 60, .inl (upd f2 j1 0)))]) B hP hD hS 3 rfl (nI_in (by omega) (by omega)) (nI_clamp (by omega)) rfl rfl dX3_markStruck_13 (fun H locs hP hD hS => ?_)
      refine lv_iinc (v := nI (j1 + 1)) (lv' := [(2, .int (nI (j1 + 1))), (0, .ref a_N), (1, .int (nI x0))]) hx hb dX3_markStruck_14 hl (k := 0) rfl (nI_1 _) (by decide) rfl (fun ls hl => ?_)
      refine lv_pc (q := 17) rfl ?_
      refine lv_goto (tgt := 2) hx hb dX3_markStruck_17 (by decide) ?_
      refine lv_pc (q := 2) rfl ?_
      refine W.widen (k := 0) (n := 0) (Nat.le_of_ble_eq_true rfl) (Nat.le_of_ble_eq_true rfl) ?_
      exact ih2 (j1 + 1) (upd f2 j1 0) (by omega) (uBup bf2 (by decide)) (by omega) _ _ _ (uSub hP [0, 1, 2, 3] rfl) (hD.sub [0, 1, 2, 3] rfl rfl) hS (lv_sub hl [0, 1, 2] rfl)
  refine lv_pc (q := 2) rfl ?_
  refine W.widen (k := 0) (n := 0) (Nat.le_of_ble_eq_true rfl) (Nat.le_of_ble_eq_true rfl) ?_
  exact L4 ((x0 - 0) + 1) 0 f_N_struck (by omega) b_N_struck (Nat.lt_succ_self _) _ _ _ hP hD hS hl
def qwX3_notAfter (a_N : Nat) (v_N_size : Nat) (v_N_drawnFor : Int32) (v_N_agree : Int32) (v_N_quietUpTo : Nat) (a_N_greatest : Nat) (f_N_greatest : Nat → Int32) (a_N_sorts : Nat) (a_N_firsts : Nat) (a_N_seconds : Nat) (a_N_struck : Nat) (a_N_least : Nat) (x0 : Nat) (x1 : Int32) : ((Nat → Int32)) → Prop := (fun (u : (Nat → Int32)) => True)
def vwX3_notAfter (K : Nat → ClassId) (a_N : Nat) (v_N_size : Nat) (v_N_drawnFor : Int32) (v_N_agree : Int32) (v_N_quietUpTo : Nat) (a_N_greatest : Nat) (f_N_greatest : Nat → Int32) (a_N_sorts : Nat) (a_N_firsts : Nat) (a_N_seconds : Nat) (a_N_struck : Nat) (a_N_least : Nat) (x0 : Nat) (x1 : Int32) : ((Nat → Int32)) → va_W := (fun (u : (Nat → Int32)) => [(a_N, .inr (3, [.ref a_N_sorts, .ref a_N_firsts, .ref a_N_seconds, .ref a_N_struck, .ref a_N_least, .ref a_N_greatest, .int (nI v_N_size), .int v_N_drawnFor, .int v_N_agree, .int (nI v_N_quietUpTo)])), (a_N_greatest, .inl (K 0, 24, .inl u))])
set_option maxHeartbeats 4000000 in
set_option maxRecDepth 100000 in
theorem wX3_notAfter (l : Launch) (D : va_G) (K : Nat → ClassId) (sz : Nat) (a_N : Nat) (v_N_size : Nat) (v_N_drawnFor : Int32) (v_N_agree : Int32) (v_N_quietUpTo : Nat) (a_N_greatest : Nat) (f_N_greatest : Nat → Int32) (a_N_sorts : Nat) (a_N_firsts : Nat) (a_N_seconds : Nat) (a_N_struck : Nat) (a_N_least : Nat) (x0 : Nat) (x1 : Int32) (hv_N_size : v_N_size ≤ 60) (hv_N_agree : v_N_agree = 0 ∨ v_N_agree = 1) (hv_N_quietUpTo : v_N_quietUpTo ≤ 60) (hx0 : x0 < 24) : uMv l yX3_notAfter cX3_notAfter 3 { frames := 1, cells := 0, slots := 0, locals := 15 } [.ref a_N, .int (nI x0), .int x1] D K [(a_N, .inr (3, [.ref a_N_sorts, .ref a_N_firsts, .ref a_N_seconds, .ref a_N_struck, .ref a_N_least, .ref a_N_greatest, .int (nI v_N_size), .int v_N_drawnFor, .int v_N_agree, .int (nI v_N_quietUpTo)])), (a_N_greatest, .inl (K 0, 24, .inl f_N_greatest))] sz (qwX3_notAfter a_N v_N_size v_N_drawnFor v_N_agree v_N_quietUpTo a_N_greatest f_N_greatest a_N_sorts a_N_firsts a_N_seconds a_N_struck a_N_least x0 x1) (vwX3_notAfter K a_N v_N_size v_N_drawnFor v_N_agree v_N_quietUpTo a_N_greatest f_N_greatest a_N_sorts a_N_firsts a_N_seconds a_N_struck a_N_least x0 x1) := by
  refine uMet (Qc := uQv D (qwX3_notAfter a_N v_N_size v_N_drawnFor v_N_agree v_N_quietUpTo a_N_greatest f_N_greatest a_N_sorts a_N_firsts a_N_seconds a_N_struck a_N_least x0 x1) (vwX3_notAfter K a_N v_N_size v_N_drawnFor v_N_agree v_N_quietUpTo a_N_greatest f_N_greatest a_N_sorts a_N_firsts a_N_seconds a_N_struck a_N_least x0 x1)) (ret := none) (by decide) (Nat.le_of_ble_eq_true rfl) ?_
  intro p e s m below meth c A ls hAe hsz B hP hD hS hl
  have hx := B.1
  have hb := B.2.1
  have hl : lv_has ls 3 [(0, .ref a_N), (1, .int (nI x0)), (2, .int x1)] := hl
  refine lv_aload_n hx hb dX3_notAfter_0 rfl (lv_at hl 0 rfl) ?_
  refine uGet (ci := 3) (C := RX3) (T := TX3) (N := 10) (v := .ref a_N_greatest) B inlX3 hP 0 rfl rfl 5 rfl mfl_X3_28 rfl rfl dX3_notAfter_1 ?_
  refine lv_iload_n hx hb dX3_notAfter_4 rfl (lv_at hl 1 rfl) ?_
  refine lv_aload_n hx hb dX3_notAfter_5 rfl (lv_at hl 0 rfl) ?_
  refine uGet (ci := 3) (C := RX3) (T := TX3) (N := 10) (v := .ref a_N_greatest) B inlX3 hP 0 rfl rfl 5 rfl mfl_X3_28 rfl rfl dX3_notAfter_6 ?_
  refine lv_pc (q := 9) rfl ?_
  refine lv_iload_n hx hb dX3_notAfter_9 rfl (lv_at hl 1 rfl) ?_
  refine uIald (i := (nI x0)) (j := x0) B hP 1 rfl (nI_in (by omega) (by omega)) (nI_clamp (by omega)) dX3_notAfter_10 ?_
  refine lv_iload_n hx hb dX3_notAfter_11 rfl (lv_at hl 2 rfl) ?_
  refine uMin B hl.1 mml_X3_86 (Nat.le_of_ble_eq_true rfl) (Nat.le_of_ble_eq_true rfl) (Nat.le_of_ble_eq_true rfl) (Nat.le_of_ble_eq_true rfl) dX3_notAfter_12 ?_
  refine lv_topi (fun y1 ey1 => ?_)
  clear ey1
  refine uIast (i := (nI x0)) (j := x0) (ws' := [(a_N, .inr (3, [.ref a_N_sorts, .ref a_N_firsts, .ref a_N_seconds, .ref a_N_struck, .ref a_N_least, .ref a_N_greatest, .int (nI v_N_size), .int v_N_drawnFor, .int v_N_agree, .int (nI v_N_quietUpTo)])), (a_N_greatest, .inl (K 0, 24, .inl (upd f_N_greatest x0 y1)))]) B hP hD hS 1 rfl (nI_in (by omega) (by omega)) (nI_clamp (by omega)) rfl dX3_notAfter_15 (fun H locs hP hD hS => ?_)
  exact uRv (upd f_N_greatest x0 y1) B trivial (uSub hP [0, 1] rfl) (hD.sub [0, 1] rfl rfl) hS dX3_notAfter_16
def qwX3_notBefore (a_N : Nat) (v_N_size : Nat) (v_N_drawnFor : Int32) (v_N_agree : Int32) (v_N_quietUpTo : Nat) (a_N_least : Nat) (f_N_least : Nat → Int32) (a_N_sorts : Nat) (a_N_firsts : Nat) (a_N_seconds : Nat) (a_N_struck : Nat) (a_N_greatest : Nat) (x0 : Nat) (x1 : Int32) : ((Nat → Int32)) → Prop := (fun (u : (Nat → Int32)) => True)
def vwX3_notBefore (K : Nat → ClassId) (a_N : Nat) (v_N_size : Nat) (v_N_drawnFor : Int32) (v_N_agree : Int32) (v_N_quietUpTo : Nat) (a_N_least : Nat) (f_N_least : Nat → Int32) (a_N_sorts : Nat) (a_N_firsts : Nat) (a_N_seconds : Nat) (a_N_struck : Nat) (a_N_greatest : Nat) (x0 : Nat) (x1 : Int32) : ((Nat → Int32)) → va_W := (fun (u : (Nat → Int32)) => [(a_N, .inr (3, [.ref a_N_sorts, .ref a_N_firsts, .ref a_N_seconds, .ref a_N_struck, .ref a_N_least, .ref a_N_greatest, .int (nI v_N_size), .int v_N_drawnFor, .int v_N_agree, .int (nI v_N_quietUpTo)])), (a_N_least, .inl (K 0, 24, .inl u))])
set_option maxHeartbeats 4000000 in
set_option maxRecDepth 100000 in
theorem wX3_notBefore (l : Launch) (D : va_G) (K : Nat → ClassId) (sz : Nat) (a_N : Nat) (v_N_size : Nat) (v_N_drawnFor : Int32) (v_N_agree : Int32) (v_N_quietUpTo : Nat) (a_N_least : Nat) (f_N_least : Nat → Int32) (a_N_sorts : Nat) (a_N_firsts : Nat) (a_N_seconds : Nat) (a_N_struck : Nat) (a_N_greatest : Nat) (x0 : Nat) (x1 : Int32) (hv_N_size : v_N_size ≤ 60) (hv_N_agree : v_N_agree = 0 ∨ v_N_agree = 1) (hv_N_quietUpTo : v_N_quietUpTo ≤ 60) (hx0 : x0 < 24) : uMv l yX3_notBefore cX3_notBefore 3 { frames := 1, cells := 0, slots := 0, locals := 15 } [.ref a_N, .int (nI x0), .int x1] D K [(a_N, .inr (3, [.ref a_N_sorts, .ref a_N_firsts, .ref a_N_seconds, .ref a_N_struck, .ref a_N_least, .ref a_N_greatest, .int (nI v_N_size), .int v_N_drawnFor, .int v_N_agree, .int (nI v_N_quietUpTo)])), (a_N_least, .inl (K 0, 24, .inl f_N_least))] sz (qwX3_notBefore a_N v_N_size v_N_drawnFor v_N_agree v_N_quietUpTo a_N_least f_N_least a_N_sorts a_N_firsts a_N_seconds a_N_struck a_N_greatest x0 x1) (vwX3_notBefore K a_N v_N_size v_N_drawnFor v_N_agree v_N_quietUpTo a_N_least f_N_least a_N_sorts a_N_firsts a_N_seconds a_N_struck a_N_greatest x0 x1) := by
  refine uMet (Qc := uQv D (qwX3_notBefore a_N v_N_size v_N_drawnFor v_N_agree v_N_quietUpTo a_N_least f_N_least a_N_sorts a_N_firsts a_N_seconds a_N_struck a_N_greatest x0 x1) (vwX3_notBefore K a_N v_N_size v_N_drawnFor v_N_agree v_N_quietUpTo a_N_least f_N_least a_N_sorts a_N_firsts a_N_seconds a_N_struck a_N_greatest x0 x1)) (ret := none) (by decide) (Nat.le_of_ble_eq_true rfl) ?_
  intro p e s m below meth c A ls hAe hsz B hP hD hS hl
  have hx := B.1
  have hb := B.2.1
  have hl : lv_has ls 3 [(0, .ref a_N), (1, .int (nI x0)), (2, .int x1)] := hl
  refine lv_aload_n hx hb dX3_notBefore_0 rfl (lv_at hl 0 rfl) ?_
  refine uGet (ci := 3) (C := RX3) (T := TX3) (N := 10) (v := .ref a_N_least) B inlX3 hP 0 rfl rfl 4 rfl mfl_X3_25 rfl rfl dX3_notBefore_1 ?_
  refine lv_iload_n hx hb dX3_notBefore_4 rfl (lv_at hl 1 rfl) ?_
  refine lv_aload_n hx hb dX3_notBefore_5 rfl (lv_at hl 0 rfl) ?_
  refine uGet (ci := 3) (C := RX3) (T := TX3) (N := 10) (v := .ref a_N_least) B inlX3 hP 0 rfl rfl 4 rfl mfl_X3_25 rfl rfl dX3_notBefore_6 ?_
  refine lv_pc (q := 9) rfl ?_
  refine lv_iload_n hx hb dX3_notBefore_9 rfl (lv_at hl 1 rfl) ?_
  refine uIald (i := (nI x0)) (j := x0) B hP 1 rfl (nI_in (by omega) (by omega)) (nI_clamp (by omega)) dX3_notBefore_10 ?_
  refine lv_iload_n hx hb dX3_notBefore_11 rfl (lv_at hl 2 rfl) ?_
  refine uMax B hl.1 mml_X3_80 (Nat.le_of_ble_eq_true rfl) (Nat.le_of_ble_eq_true rfl) (Nat.le_of_ble_eq_true rfl) (Nat.le_of_ble_eq_true rfl) dX3_notBefore_12 ?_
  refine uIast (i := (nI x0)) (j := x0) (ws' := [(a_N, .inr (3, [.ref a_N_sorts, .ref a_N_firsts, .ref a_N_seconds, .ref a_N_struck, .ref a_N_least, .ref a_N_greatest, .int (nI v_N_size), .int v_N_drawnFor, .int v_N_agree, .int (nI v_N_quietUpTo)])), (a_N_least, .inl (K 0, 24, .inl (upd f_N_least x0 (if (f_N_least x0) < x1 then x1 else (f_N_least x0)))))]) B hP hD hS 1 rfl (nI_in (by omega) (by omega)) (nI_clamp (by omega)) rfl dX3_notBefore_15 (fun H locs hP hD hS => ?_)
  generalize upd f_N_least x0 (if (f_N_least x0) < x1 then x1 else (f_N_least x0)) = f1 at hP hD
  exact uRv f1 B trivial (uSub hP [0, 1] rfl) (hD.sub [0, 1] rfl rfl) hS dX3_notBefore_16
def qwX3_setBounds (a_N : Nat) (v_N_size : Nat) (v_N_drawnFor : Int32) (v_N_agree : Int32) (v_N_quietUpTo : Nat) (a_N_sorts : Nat) (f_N_sorts : Nat → Int32) (a_N_firsts : Nat) (f_N_firsts : Nat → Int32) (a_N_seconds : Nat) (f_N_seconds : Nat → Int32) (a_N_least : Nat) (f_N_least : Nat → Int32) (a_N_greatest : Nat) (f_N_greatest : Nat → Int32) (a_N_struck : Nat) (x0 : Nat) : ((Nat → Int32) × (Nat → Int32)) → Prop := (fun (u : (Nat → Int32) × (Nat → Int32)) => True)
def vwX3_setBounds (K : Nat → ClassId) (a_N : Nat) (v_N_size : Nat) (v_N_drawnFor : Int32) (v_N_agree : Int32) (v_N_quietUpTo : Nat) (a_N_sorts : Nat) (f_N_sorts : Nat → Int32) (a_N_firsts : Nat) (f_N_firsts : Nat → Int32) (a_N_seconds : Nat) (f_N_seconds : Nat → Int32) (a_N_least : Nat) (f_N_least : Nat → Int32) (a_N_greatest : Nat) (f_N_greatest : Nat → Int32) (a_N_struck : Nat) (x0 : Nat) : ((Nat → Int32) × (Nat → Int32)) → va_W := (fun (u : (Nat → Int32) × (Nat → Int32)) => [(a_N, .inr (3, [.ref a_N_sorts, .ref a_N_firsts, .ref a_N_seconds, .ref a_N_struck, .ref a_N_least, .ref a_N_greatest, .int (nI v_N_size), .int v_N_drawnFor, .int v_N_agree, .int (nI v_N_quietUpTo)])), (a_N_sorts, .inl (K 0, 60, .inl f_N_sorts)), (a_N_firsts, .inl (K 0, 60, .inl f_N_firsts)), (a_N_seconds, .inl (K 0, 60, .inl f_N_seconds)), (a_N_least, .inl (K 0, 24, .inl (u.1))), (a_N_greatest, .inl (K 0, 24, .inl (u.2)))])
set_option maxHeartbeats 4000000 in
set_option maxRecDepth 100000 in
theorem wX3_setBounds (l : Launch) (D : va_G) (K : Nat → ClassId) (sz : Nat) (a_N : Nat) (v_N_size : Nat) (v_N_drawnFor : Int32) (v_N_agree : Int32) (v_N_quietUpTo : Nat) (a_N_sorts : Nat) (f_N_sorts : Nat → Int32) (a_N_firsts : Nat) (f_N_firsts : Nat → Int32) (a_N_seconds : Nat) (f_N_seconds : Nat → Int32) (a_N_least : Nat) (f_N_least : Nat → Int32) (a_N_greatest : Nat) (f_N_greatest : Nat → Int32) (a_N_struck : Nat) (x0 : Nat) (hv_N_size : v_N_size ≤ 60) (hv_N_agree : v_N_agree = 0 ∨ v_N_agree = 1) (hv_N_quietUpTo : v_N_quietUpTo ≤ 60) (r_N_sorts : uRg f_N_sorts 0 6) (r_N_firsts : uRg f_N_firsts 0 59) (r_N_seconds : uRg f_N_seconds 0 500) (hx0 : x0 < 60) (i_uNt : uNt f_N_sorts f_N_firsts f_N_seconds) : uMv l yX3_setBounds cX3_setBounds 3 { frames := 2, cells := 0, slots := 0, locals := 37 } [.ref a_N, .int (nI x0)] D K [(a_N, .inr (3, [.ref a_N_sorts, .ref a_N_firsts, .ref a_N_seconds, .ref a_N_struck, .ref a_N_least, .ref a_N_greatest, .int (nI v_N_size), .int v_N_drawnFor, .int v_N_agree, .int (nI v_N_quietUpTo)])), (a_N_sorts, .inl (K 0, 60, .inl f_N_sorts)), (a_N_firsts, .inl (K 0, 60, .inl f_N_firsts)), (a_N_seconds, .inl (K 0, 60, .inl f_N_seconds)), (a_N_least, .inl (K 0, 24, .inl f_N_least)), (a_N_greatest, .inl (K 0, 24, .inl f_N_greatest))] sz (qwX3_setBounds a_N v_N_size v_N_drawnFor v_N_agree v_N_quietUpTo a_N_sorts f_N_sorts a_N_firsts f_N_firsts a_N_seconds f_N_seconds a_N_least f_N_least a_N_greatest f_N_greatest a_N_struck x0) (vwX3_setBounds K a_N v_N_size v_N_drawnFor v_N_agree v_N_quietUpTo a_N_sorts f_N_sorts a_N_firsts f_N_firsts a_N_seconds f_N_seconds a_N_least f_N_least a_N_greatest f_N_greatest a_N_struck x0) := by
  refine uMet (Qc := uQv D (qwX3_setBounds a_N v_N_size v_N_drawnFor v_N_agree v_N_quietUpTo a_N_sorts f_N_sorts a_N_firsts f_N_firsts a_N_seconds f_N_seconds a_N_least f_N_least a_N_greatest f_N_greatest a_N_struck x0) (vwX3_setBounds K a_N v_N_size v_N_drawnFor v_N_agree v_N_quietUpTo a_N_sorts f_N_sorts a_N_firsts f_N_firsts a_N_seconds f_N_seconds a_N_least f_N_least a_N_greatest f_N_greatest a_N_struck x0)) (ret := none) (by decide) (Nat.le_of_ble_eq_true rfl) ?_
  intro p e s m below meth c A ls hAe hsz B hP hD hS hl
  have hx := B.1
  have hb := B.2.1
  have hl : lv_has ls 3 [(0, .ref a_N), (1, .int (nI x0))] := hl
  refine lv_aload_n hx hb dX3_setBounds_0 rfl (lv_at hl 0 rfl) ?_
  refine uGet (ci := 3) (C := RX3) (T := TX3) (N := 10) (v := .ref a_N_seconds) B inlX3 hP 0 rfl rfl 2 rfl mfl_X3_18 rfl rfl dX3_setBounds_1 ?_
  refine lv_iload_n hx hb dX3_setBounds_4 rfl (lv_at hl 1 rfl) ?_
  refine uIald (i := (nI x0)) (j := x0) B hP 3 rfl (nI_in (by omega) (by omega)) (nI_clamp (by omega)) dX3_setBounds_5 ?_
  obtain ⟨a1, ha1, ea1⟩ := uRnat r_N_seconds x0 (by decide)
  simp only [Int32.reduceToInt] at ha1
  refine lv_fixi (y := (nI a1)) ea1 ?_
  refine lv_istore_n (lv' := [(2, .int (nI a1)), (0, .ref a_N), (1, .int (nI x0))]) hx hb dX3_setBounds_6 rfl hl (by decide) rfl (fun ls hl => ?_)
  refine lv_pc (q := 7) rfl ?_
  refine lv_aload_n hx hb dX3_setBounds_7 rfl (lv_at hl 1 rfl) ?_
  refine uGet (ci := 3) (C := RX3) (T := TX3) (N := 10) (v := .ref a_N_sorts) B inlX3 hP 0 rfl rfl 0 rfl mfl_X3_9 rfl rfl dX3_setBounds_8 ?_
  refine lv_iload_n hx hb dX3_setBounds_11 rfl (lv_at hl 2 rfl) ?_
  refine uIald (i := (nI x0)) (j := x0) B hP 1 rfl (nI_in (by omega) (by omega)) (nI_clamp (by omega)) dX3_setBounds_12 ?_
  obtain ⟨a2, ha2, ea2⟩ := uRnat r_N_sorts x0 (by decide)
  simp only [Int32.reduceToInt] at ha2
  refine lv_fixi (y := (nI a2)) ea2 ?_
  by_cases c3 : nI a2 = 0
  · refine lv_tableIn (off := 39) (tgt := 52) hx hb dX3_setBounds_13 (by rw [c3]; decide) (by rw [c3]; decide) (by rw [c3]; rfl) (by decide) ?_
    have kc3 : a2 = 0 := (nI_eq (a := a2) (b := 0) (by omega) (by omega)).mp c3
    refine lv_aload_n hx hb dX3_setBounds_52 rfl (lv_at hl 1 rfl) ?_
    refine lv_pc (q := 53) rfl ?_
    refine lv_aload_n hx hb dX3_setBounds_53 rfl (lv_at hl 1 rfl) ?_
    refine uGet (ci := 3) (C := RX3) (T := TX3) (N := 10) (v := .ref a_N_firsts) B inlX3 hP 0 rfl rfl 1 rfl mfl_X3_15 rfl rfl dX3_setBounds_54 ?_
    refine lv_iload_n hx hb dX3_setBounds_57 rfl (lv_at hl 2 rfl) ?_
    refine uIald (i := (nI x0)) (j := x0) B hP 2 rfl (nI_in (by omega) (by omega)) (nI_clamp (by omega)) dX3_setBounds_58 ?_
    obtain ⟨a4, ha4, ea4⟩ := uRnat r_N_firsts x0 (by decide)
    simp only [Int32.reduceToInt] at ha4
    refine lv_fixi (y := (nI a4)) ea4 ?_
    have na4 := uNtF i_uNt x0 ea2 ea4 (by omega) (by omega)
    refine uSi (As := [.int (nI a4)]) (rest := [.ref a_N]) (wr := [(a_N, .inr (3, [.ref a_N_sorts, .ref a_N_firsts, .ref a_N_seconds, .ref a_N_struck, .ref a_N_least, .ref a_N_greatest, .int (nI v_N_size), .int v_N_drawnFor, .int v_N_agree, .int (nI v_N_quietUpTo)])), (a_N_sorts, .inl (K 0, 60, .inl f_N_sorts)), (a_N_firsts, .inl (K 0, 60, .inl f_N_firsts)), (a_N_seconds, .inl (K 0, 60, .inl f_N_seconds)), (a_N_least, .inl (K 0, 24, .inl f_N_least)), (a_N_greatest, .inl (K 0, 24, .inl f_N_greatest))]) [] B hl.1 hP hD hS [] [0, 1, 2, 3, 4, 5] rfl rfl rfl (wX3_begin l D K _ a4 (by omega)) wd_X3_begin mml_X3_66 rfl rfl ⟨Nat.le_of_ble_eq_true rfl, Nat.le_of_ble_eq_true rfl⟩ (Nat.le_of_ble_eq_true rfl) ⟨Nat.le_of_ble_eq_true rfl, Nat.le_of_ble_eq_true rfl⟩ dX3_setBounds_59 (fun r5 u H locs hw hP hD hS => ?_)
    try dsimp only at hw
    have w6 := hw
    have hP : va_P D vwCl [(a_N, .inr (3, [.ref a_N_sorts, .ref a_N_firsts, .ref a_N_seconds, .ref a_N_struck, .ref a_N_least, .ref a_N_greatest, .int (nI v_N_size), .int v_N_drawnFor, .int v_N_agree, .int (nI v_N_quietUpTo)])), (a_N_sorts, .inl (K 0, 60, .inl f_N_sorts)), (a_N_firsts, .inl (K 0, 60, .inl f_N_firsts)), (a_N_seconds, .inl (K 0, 60, .inl f_N_seconds)), (a_N_least, .inl (K 0, 24, .inl f_N_least)), (a_N_greatest, .inl (K 0, 24, .inl f_N_greatest))] H := hP
    have hD := uDPJ hP hD
    obtain ⟨a7, ha7, ea7⟩ := w6
    refine lv_fixi (y := (nI a7)) ea7 ?_
    refine lv_iload_n hx hb dX3_setBounds_62 rfl (lv_at hl 0 rfl) ?_
    refine lv_pc (q := 63) rfl ?_
    refine uVvJ (As := [.int (nI a7), .int (nI a1)]) (rest := []) (wr := [(a_N_sorts, .inl (K 0, 60, .inl f_N_sorts)), (a_N_firsts, .inl (K 0, 60, .inl f_N_firsts)), (a_N_seconds, .inl (K 0, 60, .inl f_N_seconds)), (a_N_least, .inl (K 0, 24, .inl f_N_least))]) (wX3_notAfter l D K _ a_N v_N_size v_N_drawnFor v_N_agree v_N_quietUpTo a_N_greatest f_N_greatest a_N_sorts a_N_firsts a_N_seconds a_N_struck a_N_least a7 (nI a1) (by omega) hv_N_agree (by omega) (by omega)) B hl.1 hP hD hS [0, 5] [1, 2, 3, 4] rfl rfl rfl wd_X3_notAfter mml_X3_70 rfl rfl rfl rfl ⟨Nat.le_of_ble_eq_true rfl, Nat.le_of_ble_eq_true rfl⟩ (Nat.le_of_ble_eq_true rfl) ⟨Nat.le_of_ble_eq_true rfl, Nat.le_of_ble_eq_true rfl⟩ dX3_setBounds_63 (fun u H locs hw hP hD hS => ?_)
    obtain ⟨u9, e9⟩ : ∃ y, y = u := ⟨_, rfl⟩
    subst e9
    try dsimp only at hw
    have hP : va_P D vwCl [(a_N_sorts, .inl (K 0, 60, .inl f_N_sorts)), (a_N_firsts, .inl (K 0, 60, .inl f_N_firsts)), (a_N_seconds, .inl (K 0, 60, .inl f_N_seconds)), (a_N_least, .inl (K 0, 24, .inl f_N_least)), (a_N, .inr (3, [.ref a_N_sorts, .ref a_N_firsts, .ref a_N_seconds, .ref a_N_struck, .ref a_N_least, .ref a_N_greatest, .int (nI v_N_size), .int v_N_drawnFor, .int v_N_agree, .int (nI v_N_quietUpTo)])), (a_N_greatest, .inl (K 0, 24, .inl u9))] H := hP
    have hD := uDPJ hP hD
    refine lv_aload_n hx hb dX3_setBounds_66 rfl (lv_at hl 1 rfl) ?_
    refine lv_aload_n hx hb dX3_setBounds_67 rfl (lv_at hl 1 rfl) ?_
    refine uGet (ci := 3) (C := RX3) (T := TX3) (N := 10) (v := .ref a_N_firsts) B inlX3 hP 4 rfl rfl 1 rfl mfl_X3_15 rfl rfl dX3_setBounds_68 ?_
    refine lv_iload_n hx hb dX3_setBounds_71 rfl (lv_at hl 2 rfl) ?_
    refine uIald (i := (nI x0)) (j := x0) B hP 1 rfl (nI_in (by omega) (by omega)) (nI_clamp (by omega)) dX3_setBounds_72 ?_
    refine lv_fixi (y := (nI a4)) ea4 ?_
    refine lv_pc (q := 73) rfl ?_
    refine uSi (As := [.int (nI a4)]) (rest := [.ref a_N]) (wr := [(a_N_sorts, .inl (K 0, 60, .inl f_N_sorts)), (a_N_firsts, .inl (K 0, 60, .inl f_N_firsts)), (a_N_seconds, .inl (K 0, 60, .inl f_N_seconds)), (a_N_least, .inl (K 0, 24, .inl f_N_least)), (a_N, .inr (3, [.ref a_N_sorts, .ref a_N_firsts, .ref a_N_seconds, .ref a_N_struck, .ref a_N_least, .ref a_N_greatest, .int (nI v_N_size), .int v_N_drawnFor, .int v_N_agree, .int (nI v_N_quietUpTo)])), (a_N_greatest, .inl (K 0, 24, .inl u9))]) [] B hl.1 hP hD hS [] [0, 1, 2, 3, 4, 5] rfl rfl rfl (wX3_end l D K _ a4 (by omega)) wd_X3_end mml_X3_74 rfl rfl ⟨Nat.le_of_ble_eq_true rfl, Nat.le_of_ble_eq_true rfl⟩ (Nat.le_of_ble_eq_true rfl) ⟨Nat.le_of_ble_eq_true rfl, Nat.le_of_ble_eq_true rfl⟩ dX3_setBounds_73 (fun r10 u H locs hw hP hD hS => ?_)
    try dsimp only at hw
    have w11 := hw
    have hP : va_P D vwCl [(a_N_sorts, .inl (K 0, 60, .inl f_N_sorts)), (a_N_firsts, .inl (K 0, 60, .inl f_N_firsts)), (a_N_seconds, .inl (K 0, 60, .inl f_N_seconds)), (a_N_least, .inl (K 0, 24, .inl f_N_least)), (a_N, .inr (3, [.ref a_N_sorts, .ref a_N_firsts, .ref a_N_seconds, .ref a_N_struck, .ref a_N_least, .ref a_N_greatest, .int (nI v_N_size), .int v_N_drawnFor, .int v_N_agree, .int (nI v_N_quietUpTo)])), (a_N_greatest, .inl (K 0, 24, .inl u9))] H := hP
    have hD := uDPJ hP hD
    obtain ⟨a12, ha12, ea12⟩ := w11
    refine lv_fixi (y := (nI a12)) ea12 ?_
    refine lv_iload_n hx hb dX3_setBounds_76 rfl (lv_at hl 0 rfl) ?_
    refine uVvJ (As := [.int (nI a12), .int (nI a1)]) (rest := []) (wr := [(a_N_sorts, .inl (K 0, 60, .inl f_N_sorts)), (a_N_firsts, .inl (K 0, 60, .inl f_N_firsts)), (a_N_seconds, .inl (K 0, 60, .inl f_N_seconds)), (a_N_greatest, .inl (K 0, 24, .inl u9))]) (wX3_notBefore l D K _ a_N v_N_size v_N_drawnFor v_N_agree v_N_quietUpTo a_N_least f_N_least a_N_sorts a_N_firsts a_N_seconds a_N_struck a_N_greatest a12 (nI a1) (by omega) hv_N_agree (by omega) (by omega)) B hl.1 hP hD hS [4, 3] [0, 1, 2, 5] rfl rfl rfl wd_X3_notBefore mml_X3_77 rfl rfl rfl rfl ⟨Nat.le_of_ble_eq_true rfl, Nat.le_of_ble_eq_true rfl⟩ (Nat.le_of_ble_eq_true rfl) ⟨Nat.le_of_ble_eq_true rfl, Nat.le_of_ble_eq_true rfl⟩ dX3_setBounds_77 (fun u H locs hw hP hD hS => ?_)
    obtain ⟨u14, e9⟩ : ∃ y, y = u := ⟨_, rfl⟩
    subst e9
    try dsimp only at hw
    have hP : va_P D vwCl [(a_N_sorts, .inl (K 0, 60, .inl f_N_sorts)), (a_N_firsts, .inl (K 0, 60, .inl f_N_firsts)), (a_N_seconds, .inl (K 0, 60, .inl f_N_seconds)), (a_N_greatest, .inl (K 0, 24, .inl u9)), (a_N, .inr (3, [.ref a_N_sorts, .ref a_N_firsts, .ref a_N_seconds, .ref a_N_struck, .ref a_N_least, .ref a_N_greatest, .int (nI v_N_size), .int v_N_drawnFor, .int v_N_agree, .int (nI v_N_quietUpTo)])), (a_N_least, .inl (K 0, 24, .inl u14))] H := hP
    have hD := uDPJ hP hD
    refine lv_goto (tgt := 148) hx hb dX3_setBounds_80 (by decide) ?_
    exact uRv (u14, u9) B trivial (uSub hP [4, 0, 1, 2, 5, 3] rfl) (hD.sub [4, 0, 1, 2, 5, 3] rfl rfl) hS dX3_setBounds_148
  have kc3 : ¬ a2 = 0 := fun h9 => c3 (by rw [h9]; rfl)
  by_cases c15 : nI a2 = 1
  · refine lv_tableIn (off := 70) (tgt := 83) hx hb dX3_setBounds_13 (by rw [c15]; decide) (by rw [c15]; decide) (by rw [c15]; rfl) (by decide) ?_
    have kc15 : a2 = 1 := (nI_eq (a := a2) (b := 1) (by omega) (by omega)).mp c15
    refine lv_aload_n hx hb dX3_setBounds_83 rfl (lv_at hl 1 rfl) ?_
    refine lv_pc (q := 84) rfl ?_
    refine lv_aload_n hx hb dX3_setBounds_84 rfl (lv_at hl 1 rfl) ?_
    refine uGet (ci := 3) (C := RX3) (T := TX3) (N := 10) (v := .ref a_N_firsts) B inlX3 hP 0 rfl rfl 1 rfl mfl_X3_15 rfl rfl dX3_setBounds_85 ?_
    refine lv_iload_n hx hb dX3_setBounds_88 rfl (lv_at hl 2 rfl) ?_
    refine uIald (i := (nI x0)) (j := x0) B hP 2 rfl (nI_in (by omega) (by omega)) (nI_clamp (by omega)) dX3_setBounds_89 ?_
    obtain ⟨a16, ha16, ea16⟩ := uRnat r_N_firsts x0 (by decide)
    simp only [Int32.reduceToInt] at ha16
    refine lv_fixi (y := (nI a16)) ea16 ?_
    have na16 := uNtF i_uNt x0 ea2 ea16 (by omega) (by omega)
    refine uSi (As := [.int (nI a16)]) (rest := [.ref a_N]) (wr := [(a_N, .inr (3, [.ref a_N_sorts, .ref a_N_firsts, .ref a_N_seconds, .ref a_N_struck, .ref a_N_least, .ref a_N_greatest, .int (nI v_N_size), .int v_N_drawnFor, .int v_N_agree, .int (nI v_N_quietUpTo)])), (a_N_sorts, .inl (K 0, 60, .inl f_N_sorts)), (a_N_firsts, .inl (K 0, 60, .inl f_N_firsts)), (a_N_seconds, .inl (K 0, 60, .inl f_N_seconds)), (a_N_least, .inl (K 0, 24, .inl f_N_least)), (a_N_greatest, .inl (K 0, 24, .inl f_N_greatest))]) [] B hl.1 hP hD hS [] [0, 1, 2, 3, 4, 5] rfl rfl rfl (wX3_end l D K _ a16 (by omega)) wd_X3_end mml_X3_74 rfl rfl ⟨Nat.le_of_ble_eq_true rfl, Nat.le_of_ble_eq_true rfl⟩ (Nat.le_of_ble_eq_true rfl) ⟨Nat.le_of_ble_eq_true rfl, Nat.le_of_ble_eq_true rfl⟩ dX3_setBounds_90 (fun r17 u H locs hw hP hD hS => ?_)
    try dsimp only at hw
    have w18 := hw
    have hP : va_P D vwCl [(a_N, .inr (3, [.ref a_N_sorts, .ref a_N_firsts, .ref a_N_seconds, .ref a_N_struck, .ref a_N_least, .ref a_N_greatest, .int (nI v_N_size), .int v_N_drawnFor, .int v_N_agree, .int (nI v_N_quietUpTo)])), (a_N_sorts, .inl (K 0, 60, .inl f_N_sorts)), (a_N_firsts, .inl (K 0, 60, .inl f_N_firsts)), (a_N_seconds, .inl (K 0, 60, .inl f_N_seconds)), (a_N_least, .inl (K 0, 24, .inl f_N_least)), (a_N_greatest, .inl (K 0, 24, .inl f_N_greatest))] H := hP
    have hD := uDPJ hP hD
    obtain ⟨a19, ha19, ea19⟩ := w18
    refine lv_fixi (y := (nI a19)) ea19 ?_
    refine lv_iload_n hx hb dX3_setBounds_93 rfl (lv_at hl 0 rfl) ?_
    refine lv_pc (q := 94) rfl ?_
    refine uVvJ (As := [.int (nI a19), .int (nI a1)]) (rest := []) (wr := [(a_N_sorts, .inl (K 0, 60, .inl f_N_sorts)), (a_N_firsts, .inl (K 0, 60, .inl f_N_firsts)), (a_N_seconds, .inl (K 0, 60, .inl f_N_seconds)), (a_N_least, .inl (K 0, 24, .inl f_N_least))]) (wX3_notAfter l D K _ a_N v_N_size v_N_drawnFor v_N_agree v_N_quietUpTo a_N_greatest f_N_greatest a_N_sorts a_N_firsts a_N_seconds a_N_struck a_N_least a19 (nI a1) (by omega) hv_N_agree (by omega) (by omega)) B hl.1 hP hD hS [0, 5] [1, 2, 3, 4] rfl rfl rfl wd_X3_notAfter mml_X3_70 rfl rfl rfl rfl ⟨Nat.le_of_ble_eq_true rfl, Nat.le_of_ble_eq_true rfl⟩ (Nat.le_of_ble_eq_true rfl) ⟨Nat.le_of_ble_eq_true rfl, Nat.le_of_ble_eq_true rfl⟩ dX3_setBounds_94 (fun u H locs hw hP hD hS => ?_)
    obtain ⟨u21, e9⟩ : ∃ y, y = u := ⟨_, rfl⟩
    subst e9
    try dsimp only at hw
    have hP : va_P D vwCl [(a_N_sorts, .inl (K 0, 60, .inl f_N_sorts)), (a_N_firsts, .inl (K 0, 60, .inl f_N_firsts)), (a_N_seconds, .inl (K 0, 60, .inl f_N_seconds)), (a_N_least, .inl (K 0, 24, .inl f_N_least)), (a_N, .inr (3, [.ref a_N_sorts, .ref a_N_firsts, .ref a_N_seconds, .ref a_N_struck, .ref a_N_least, .ref a_N_greatest, .int (nI v_N_size), .int v_N_drawnFor, .int v_N_agree, .int (nI v_N_quietUpTo)])), (a_N_greatest, .inl (K 0, 24, .inl u21))] H := hP
    have hD := uDPJ hP hD
    refine lv_aload_n hx hb dX3_setBounds_97 rfl (lv_at hl 1 rfl) ?_
    refine lv_aload_n hx hb dX3_setBounds_98 rfl (lv_at hl 1 rfl) ?_
    refine uGet (ci := 3) (C := RX3) (T := TX3) (N := 10) (v := .ref a_N_firsts) B inlX3 hP 4 rfl rfl 1 rfl mfl_X3_15 rfl rfl dX3_setBounds_99 ?_
    refine lv_iload_n hx hb dX3_setBounds_102 rfl (lv_at hl 2 rfl) ?_
    refine uIald (i := (nI x0)) (j := x0) B hP 1 rfl (nI_in (by omega) (by omega)) (nI_clamp (by omega)) dX3_setBounds_103 ?_
    refine lv_fixi (y := (nI a16)) ea16 ?_
    refine lv_pc (q := 104) rfl ?_
    refine uSi (As := [.int (nI a16)]) (rest := [.ref a_N]) (wr := [(a_N_sorts, .inl (K 0, 60, .inl f_N_sorts)), (a_N_firsts, .inl (K 0, 60, .inl f_N_firsts)), (a_N_seconds, .inl (K 0, 60, .inl f_N_seconds)), (a_N_least, .inl (K 0, 24, .inl f_N_least)), (a_N, .inr (3, [.ref a_N_sorts, .ref a_N_firsts, .ref a_N_seconds, .ref a_N_struck, .ref a_N_least, .ref a_N_greatest, .int (nI v_N_size), .int v_N_drawnFor, .int v_N_agree, .int (nI v_N_quietUpTo)])), (a_N_greatest, .inl (K 0, 24, .inl u21))]) [] B hl.1 hP hD hS [] [0, 1, 2, 3, 4, 5] rfl rfl rfl (wX3_end l D K _ a16 (by omega)) wd_X3_end mml_X3_74 rfl rfl ⟨Nat.le_of_ble_eq_true rfl, Nat.le_of_ble_eq_true rfl⟩ (Nat.le_of_ble_eq_true rfl) ⟨Nat.le_of_ble_eq_true rfl, Nat.le_of_ble_eq_true rfl⟩ dX3_setBounds_104 (fun r22 u H locs hw hP hD hS => ?_)
    try dsimp only at hw
    have w23 := hw
    have hP : va_P D vwCl [(a_N_sorts, .inl (K 0, 60, .inl f_N_sorts)), (a_N_firsts, .inl (K 0, 60, .inl f_N_firsts)), (a_N_seconds, .inl (K 0, 60, .inl f_N_seconds)), (a_N_least, .inl (K 0, 24, .inl f_N_least)), (a_N, .inr (3, [.ref a_N_sorts, .ref a_N_firsts, .ref a_N_seconds, .ref a_N_struck, .ref a_N_least, .ref a_N_greatest, .int (nI v_N_size), .int v_N_drawnFor, .int v_N_agree, .int (nI v_N_quietUpTo)])), (a_N_greatest, .inl (K 0, 24, .inl u21))] H := hP
    have hD := uDPJ hP hD
    obtain ⟨a24, ha24, ea24⟩ := w23
    refine lv_fixi (y := (nI a24)) ea24 ?_
    refine lv_iload_n hx hb dX3_setBounds_107 rfl (lv_at hl 0 rfl) ?_
    refine uVvJ (As := [.int (nI a24), .int (nI a1)]) (rest := []) (wr := [(a_N_sorts, .inl (K 0, 60, .inl f_N_sorts)), (a_N_firsts, .inl (K 0, 60, .inl f_N_firsts)), (a_N_seconds, .inl (K 0, 60, .inl f_N_seconds)), (a_N_greatest, .inl (K 0, 24, .inl u21))]) (wX3_notBefore l D K _ a_N v_N_size v_N_drawnFor v_N_agree v_N_quietUpTo a_N_least f_N_least a_N_sorts a_N_firsts a_N_seconds a_N_struck a_N_greatest a24 (nI a1) (by omega) hv_N_agree (by omega) (by omega)) B hl.1 hP hD hS [4, 3] [0, 1, 2, 5] rfl rfl rfl wd_X3_notBefore mml_X3_77 rfl rfl rfl rfl ⟨Nat.le_of_ble_eq_true rfl, Nat.le_of_ble_eq_true rfl⟩ (Nat.le_of_ble_eq_true rfl) ⟨Nat.le_of_ble_eq_true rfl, Nat.le_of_ble_eq_true rfl⟩ dX3_setBounds_108 (fun u H locs hw hP hD hS => ?_)
    obtain ⟨u26, e9⟩ : ∃ y, y = u := ⟨_, rfl⟩
    subst e9
    try dsimp only at hw
    have hP : va_P D vwCl [(a_N_sorts, .inl (K 0, 60, .inl f_N_sorts)), (a_N_firsts, .inl (K 0, 60, .inl f_N_firsts)), (a_N_seconds, .inl (K 0, 60, .inl f_N_seconds)), (a_N_greatest, .inl (K 0, 24, .inl u21)), (a_N, .inr (3, [.ref a_N_sorts, .ref a_N_firsts, .ref a_N_seconds, .ref a_N_struck, .ref a_N_least, .ref a_N_greatest, .int (nI v_N_size), .int v_N_drawnFor, .int v_N_agree, .int (nI v_N_quietUpTo)])), (a_N_least, .inl (K 0, 24, .inl u26))] H := hP
    have hD := uDPJ hP hD
    refine lv_goto (tgt := 148) hx hb dX3_setBounds_111 (by decide) ?_
    exact uRv (u26, u21) B trivial (uSub hP [4, 0, 1, 2, 5, 3] rfl) (hD.sub [4, 0, 1, 2, 5, 3] rfl rfl) hS dX3_setBounds_148
  have kc15 : ¬ a2 = 1 := fun h9 => c15 (by rw [h9]; rfl)
  by_cases c27 : nI a2 = 2
  · refine lv_tableIn (off := 135) (tgt := 148) hx hb dX3_setBounds_13 (by rw [c27]; decide) (by rw [c27]; decide) (by rw [c27]; rfl) (by decide) ?_
    have kc27 : a2 = 2 := (nI_eq (a := a2) (b := 2) (by omega) (by omega)).mp c27
    exact uRv (f_N_least, f_N_greatest) B trivial (uSub hP [0, 1, 2, 3, 4, 5] rfl) (hD.sub [0, 1, 2, 3, 4, 5] rfl rfl) hS dX3_setBounds_148
  have kc27 : ¬ a2 = 2 := fun h9 => c27 (by rw [h9]; rfl)
  by_cases c28 : nI a2 = 3
  · refine lv_tableIn (off := 135) (tgt := 148) hx hb dX3_setBounds_13 (by rw [c28]; decide) (by rw [c28]; decide) (by rw [c28]; rfl) (by decide) ?_
    have kc28 : a2 = 3 := (nI_eq (a := a2) (b := 3) (by omega) (by omega)).mp c28
    exact uRv (f_N_least, f_N_greatest) B trivial (uSub hP [0, 1, 2, 3, 4, 5] rfl) (hD.sub [0, 1, 2, 3, 4, 5] rfl rfl) hS dX3_setBounds_148
  have kc28 : ¬ a2 = 3 := fun h9 => c28 (by rw [h9]; rfl)
  by_cases c29 : nI a2 = 4
  · refine lv_tableIn (off := 101) (tgt := 114) hx hb dX3_setBounds_13 (by rw [c29]; decide) (by rw [c29]; decide) (by rw [c29]; rfl) (by decide) ?_
    have kc29 : a2 = 4 := (nI_eq (a := a2) (b := 4) (by omega) (by omega)).mp c29
    refine lv_aload_n hx hb dX3_setBounds_114 rfl (lv_at hl 1 rfl) ?_
    refine lv_pc (q := 115) rfl ?_
    refine lv_aload_n hx hb dX3_setBounds_115 rfl (lv_at hl 1 rfl) ?_
    refine uGet (ci := 3) (C := RX3) (T := TX3) (N := 10) (v := .ref a_N_firsts) B inlX3 hP 0 rfl rfl 1 rfl mfl_X3_15 rfl rfl dX3_setBounds_116 ?_
    refine lv_iload_n hx hb dX3_setBounds_119 rfl (lv_at hl 2 rfl) ?_
    refine uIald (i := (nI x0)) (j := x0) B hP 2 rfl (nI_in (by omega) (by omega)) (nI_clamp (by omega)) dX3_setBounds_120 ?_
    obtain ⟨a30, ha30, ea30⟩ := uRnat r_N_firsts x0 (by decide)
    simp only [Int32.reduceToInt] at ha30
    refine lv_fixi (y := (nI a30)) ea30 ?_
    have na30 := uNtF i_uNt x0 ea2 ea30 (by omega) (by omega)
    refine uSi (As := [.int (nI a30)]) (rest := [.ref a_N]) (wr := [(a_N, .inr (3, [.ref a_N_sorts, .ref a_N_firsts, .ref a_N_seconds, .ref a_N_struck, .ref a_N_least, .ref a_N_greatest, .int (nI v_N_size), .int v_N_drawnFor, .int v_N_agree, .int (nI v_N_quietUpTo)])), (a_N_sorts, .inl (K 0, 60, .inl f_N_sorts)), (a_N_firsts, .inl (K 0, 60, .inl f_N_firsts)), (a_N_seconds, .inl (K 0, 60, .inl f_N_seconds)), (a_N_least, .inl (K 0, 24, .inl f_N_least)), (a_N_greatest, .inl (K 0, 24, .inl f_N_greatest))]) [] B hl.1 hP hD hS [] [0, 1, 2, 3, 4, 5] rfl rfl rfl (wX3_end l D K _ a30 (by omega)) wd_X3_end mml_X3_74 rfl rfl ⟨Nat.le_of_ble_eq_true rfl, Nat.le_of_ble_eq_true rfl⟩ (Nat.le_of_ble_eq_true rfl) ⟨Nat.le_of_ble_eq_true rfl, Nat.le_of_ble_eq_true rfl⟩ dX3_setBounds_121 (fun r31 u H locs hw hP hD hS => ?_)
    try dsimp only at hw
    have w32 := hw
    have hP : va_P D vwCl [(a_N, .inr (3, [.ref a_N_sorts, .ref a_N_firsts, .ref a_N_seconds, .ref a_N_struck, .ref a_N_least, .ref a_N_greatest, .int (nI v_N_size), .int v_N_drawnFor, .int v_N_agree, .int (nI v_N_quietUpTo)])), (a_N_sorts, .inl (K 0, 60, .inl f_N_sorts)), (a_N_firsts, .inl (K 0, 60, .inl f_N_firsts)), (a_N_seconds, .inl (K 0, 60, .inl f_N_seconds)), (a_N_least, .inl (K 0, 24, .inl f_N_least)), (a_N_greatest, .inl (K 0, 24, .inl f_N_greatest))] H := hP
    have hD := uDPJ hP hD
    obtain ⟨a33, ha33, ea33⟩ := w32
    refine lv_fixi (y := (nI a33)) ea33 ?_
    refine lv_iload_n hx hb dX3_setBounds_124 rfl (lv_at hl 0 rfl) ?_
    refine lv_pc (q := 125) rfl ?_
    refine uVvJ (As := [.int (nI a33), .int (nI a1)]) (rest := []) (wr := [(a_N_sorts, .inl (K 0, 60, .inl f_N_sorts)), (a_N_firsts, .inl (K 0, 60, .inl f_N_firsts)), (a_N_seconds, .inl (K 0, 60, .inl f_N_seconds)), (a_N_greatest, .inl (K 0, 24, .inl f_N_greatest))]) (wX3_notBefore l D K _ a_N v_N_size v_N_drawnFor v_N_agree v_N_quietUpTo a_N_least f_N_least a_N_sorts a_N_firsts a_N_seconds a_N_struck a_N_greatest a33 (nI a1) (by omega) hv_N_agree (by omega) (by omega)) B hl.1 hP hD hS [0, 4] [1, 2, 3, 5] rfl rfl rfl wd_X3_notBefore mml_X3_77 rfl rfl rfl rfl ⟨Nat.le_of_ble_eq_true rfl, Nat.le_of_ble_eq_true rfl⟩ (Nat.le_of_ble_eq_true rfl) ⟨Nat.le_of_ble_eq_true rfl, Nat.le_of_ble_eq_true rfl⟩ dX3_setBounds_125 (fun u H locs hw hP hD hS => ?_)
    obtain ⟨u35, e9⟩ : ∃ y, y = u := ⟨_, rfl⟩
    subst e9
    try dsimp only at hw
    have hP : va_P D vwCl [(a_N_sorts, .inl (K 0, 60, .inl f_N_sorts)), (a_N_firsts, .inl (K 0, 60, .inl f_N_firsts)), (a_N_seconds, .inl (K 0, 60, .inl f_N_seconds)), (a_N_greatest, .inl (K 0, 24, .inl f_N_greatest)), (a_N, .inr (3, [.ref a_N_sorts, .ref a_N_firsts, .ref a_N_seconds, .ref a_N_struck, .ref a_N_least, .ref a_N_greatest, .int (nI v_N_size), .int v_N_drawnFor, .int v_N_agree, .int (nI v_N_quietUpTo)])), (a_N_least, .inl (K 0, 24, .inl u35))] H := hP
    have hD := uDPJ hP hD
    refine lv_goto (tgt := 148) hx hb dX3_setBounds_128 (by decide) ?_
    exact uRv (u35, f_N_greatest) B trivial (uSub hP [4, 0, 1, 2, 5, 3] rfl) (hD.sub [4, 0, 1, 2, 5, 3] rfl rfl) hS dX3_setBounds_148
  have kc29 : ¬ a2 = 4 := fun h9 => c29 (by rw [h9]; rfl)
  by_cases c36 : nI a2 = 5
  · refine lv_tableIn (off := 118) (tgt := 131) hx hb dX3_setBounds_13 (by rw [c36]; decide) (by rw [c36]; decide) (by rw [c36]; rfl) (by decide) ?_
    have kc36 : a2 = 5 := (nI_eq (a := a2) (b := 5) (by omega) (by omega)).mp c36
    refine lv_aload_n hx hb dX3_setBounds_131 rfl (lv_at hl 1 rfl) ?_
    refine lv_pc (q := 132) rfl ?_
    refine lv_aload_n hx hb dX3_setBounds_132 rfl (lv_at hl 1 rfl) ?_
    refine uGet (ci := 3) (C := RX3) (T := TX3) (N := 10) (v := .ref a_N_firsts) B inlX3 hP 0 rfl rfl 1 rfl mfl_X3_15 rfl rfl dX3_setBounds_133 ?_
    refine lv_iload_n hx hb dX3_setBounds_136 rfl (lv_at hl 2 rfl) ?_
    refine uIald (i := (nI x0)) (j := x0) B hP 2 rfl (nI_in (by omega) (by omega)) (nI_clamp (by omega)) dX3_setBounds_137 ?_
    obtain ⟨a37, ha37, ea37⟩ := uRnat r_N_firsts x0 (by decide)
    simp only [Int32.reduceToInt] at ha37
    refine lv_fixi (y := (nI a37)) ea37 ?_
    have na37 := uNtF i_uNt x0 ea2 ea37 (by omega) (by omega)
    refine uSi (As := [.int (nI a37)]) (rest := [.ref a_N]) (wr := [(a_N, .inr (3, [.ref a_N_sorts, .ref a_N_firsts, .ref a_N_seconds, .ref a_N_struck, .ref a_N_least, .ref a_N_greatest, .int (nI v_N_size), .int v_N_drawnFor, .int v_N_agree, .int (nI v_N_quietUpTo)])), (a_N_sorts, .inl (K 0, 60, .inl f_N_sorts)), (a_N_firsts, .inl (K 0, 60, .inl f_N_firsts)), (a_N_seconds, .inl (K 0, 60, .inl f_N_seconds)), (a_N_least, .inl (K 0, 24, .inl f_N_least)), (a_N_greatest, .inl (K 0, 24, .inl f_N_greatest))]) [] B hl.1 hP hD hS [] [0, 1, 2, 3, 4, 5] rfl rfl rfl (wX3_begin l D K _ a37 (by omega)) wd_X3_begin mml_X3_66 rfl rfl ⟨Nat.le_of_ble_eq_true rfl, Nat.le_of_ble_eq_true rfl⟩ (Nat.le_of_ble_eq_true rfl) ⟨Nat.le_of_ble_eq_true rfl, Nat.le_of_ble_eq_true rfl⟩ dX3_setBounds_138 (fun r38 u H locs hw hP hD hS => ?_)
    try dsimp only at hw
    have w39 := hw
    have hP : va_P D vwCl [(a_N, .inr (3, [.ref a_N_sorts, .ref a_N_firsts, .ref a_N_seconds, .ref a_N_struck, .ref a_N_least, .ref a_N_greatest, .int (nI v_N_size), .int v_N_drawnFor, .int v_N_agree, .int (nI v_N_quietUpTo)])), (a_N_sorts, .inl (K 0, 60, .inl f_N_sorts)), (a_N_firsts, .inl (K 0, 60, .inl f_N_firsts)), (a_N_seconds, .inl (K 0, 60, .inl f_N_seconds)), (a_N_least, .inl (K 0, 24, .inl f_N_least)), (a_N_greatest, .inl (K 0, 24, .inl f_N_greatest))] H := hP
    have hD := uDPJ hP hD
    obtain ⟨a40, ha40, ea40⟩ := w39
    refine lv_fixi (y := (nI a40)) ea40 ?_
    refine lv_iload_n hx hb dX3_setBounds_141 rfl (lv_at hl 0 rfl) ?_
    refine lv_pc (q := 142) rfl ?_
    refine uVvJ (As := [.int (nI a40), .int (nI a1)]) (rest := []) (wr := [(a_N_sorts, .inl (K 0, 60, .inl f_N_sorts)), (a_N_firsts, .inl (K 0, 60, .inl f_N_firsts)), (a_N_seconds, .inl (K 0, 60, .inl f_N_seconds)), (a_N_greatest, .inl (K 0, 24, .inl f_N_greatest))]) (wX3_notBefore l D K _ a_N v_N_size v_N_drawnFor v_N_agree v_N_quietUpTo a_N_least f_N_least a_N_sorts a_N_firsts a_N_seconds a_N_struck a_N_greatest a40 (nI a1) (by omega) hv_N_agree (by omega) (by omega)) B hl.1 hP hD hS [0, 4] [1, 2, 3, 5] rfl rfl rfl wd_X3_notBefore mml_X3_77 rfl rfl rfl rfl ⟨Nat.le_of_ble_eq_true rfl, Nat.le_of_ble_eq_true rfl⟩ (Nat.le_of_ble_eq_true rfl) ⟨Nat.le_of_ble_eq_true rfl, Nat.le_of_ble_eq_true rfl⟩ dX3_setBounds_142 (fun u H locs hw hP hD hS => ?_)
    obtain ⟨u42, e9⟩ : ∃ y, y = u := ⟨_, rfl⟩
    subst e9
    try dsimp only at hw
    have hP : va_P D vwCl [(a_N_sorts, .inl (K 0, 60, .inl f_N_sorts)), (a_N_firsts, .inl (K 0, 60, .inl f_N_firsts)), (a_N_seconds, .inl (K 0, 60, .inl f_N_seconds)), (a_N_greatest, .inl (K 0, 24, .inl f_N_greatest)), (a_N, .inr (3, [.ref a_N_sorts, .ref a_N_firsts, .ref a_N_seconds, .ref a_N_struck, .ref a_N_least, .ref a_N_greatest, .int (nI v_N_size), .int v_N_drawnFor, .int v_N_agree, .int (nI v_N_quietUpTo)])), (a_N_least, .inl (K 0, 24, .inl u42))] H := hP
    have hD := uDPJ hP hD
    refine lv_goto (tgt := 148) hx hb dX3_setBounds_145 (by decide) ?_
    exact uRv (u42, f_N_greatest) B trivial (uSub hP [4, 0, 1, 2, 5, 3] rfl) (hD.sub [4, 0, 1, 2, 5, 3] rfl rfl) hS dX3_setBounds_148
  have kc36 : ¬ a2 = 5 := fun h9 => c36 (by rw [h9]; rfl)
  refine lv_tableOut (tgt := 148) hx hb dX3_setBounds_13 (by simp only [fa_eq, Int32.reduceToInt] at c3 c15 c27 c28 c29 c36; omega) (by decide) ?_
  exact uRv (f_N_least, f_N_greatest) B trivial (uSub hP [0, 1, 2, 3, 4, 5] rfl) (hD.sub [0, 1, 2, 3, 4, 5] rfl rfl) hS dX3_setBounds_148
def qwX3_inOrder (a_N : Nat) (v_N_size : Nat) (v_N_drawnFor : Int32) (v_N_agree : Int32) (v_N_quietUpTo : Nat) (a_N_least : Nat) (f_N_least : Nat → Int32) (a_N_greatest : Nat) (f_N_greatest : Nat → Int32) (a_N_sorts : Nat) (a_N_firsts : Nat) (a_N_seconds : Nat) (a_N_struck : Nat) (x0 : Nat) (x1 : Nat) : Int32 → ((Nat → Int32) × (Nat → Int32)) → Prop := (fun (r : Int32) (u : (Nat → Int32) × (Nat → Int32)) => (r = 0 ∨ r = 1))
def vwX3_inOrder (K : Nat → ClassId) (a_N : Nat) (v_N_size : Nat) (v_N_drawnFor : Int32) (v_N_agree : Int32) (v_N_quietUpTo : Nat) (a_N_least : Nat) (f_N_least : Nat → Int32) (a_N_greatest : Nat) (f_N_greatest : Nat → Int32) (a_N_sorts : Nat) (a_N_firsts : Nat) (a_N_seconds : Nat) (a_N_struck : Nat) (x0 : Nat) (x1 : Nat) : ((Nat → Int32) × (Nat → Int32)) → va_W := (fun (u : (Nat → Int32) × (Nat → Int32)) => [(a_N, .inr (3, [.ref a_N_sorts, .ref a_N_firsts, .ref a_N_seconds, .ref a_N_struck, .ref a_N_least, .ref a_N_greatest, .int (nI v_N_size), .int v_N_drawnFor, .int v_N_agree, .int (nI v_N_quietUpTo)])), (a_N_least, .inl (K 0, 24, .inl (u.1))), (a_N_greatest, .inl (K 0, 24, .inl (u.2)))])
set_option maxHeartbeats 4000000 in
set_option maxRecDepth 100000 in
theorem wX3_inOrder (l : Launch) (D : va_G) (K : Nat → ClassId) (sz : Nat) (a_N : Nat) (v_N_size : Nat) (v_N_drawnFor : Int32) (v_N_agree : Int32) (v_N_quietUpTo : Nat) (a_N_least : Nat) (f_N_least : Nat → Int32) (a_N_greatest : Nat) (f_N_greatest : Nat → Int32) (a_N_sorts : Nat) (a_N_firsts : Nat) (a_N_seconds : Nat) (a_N_struck : Nat) (x0 : Nat) (x1 : Nat) (hv_N_size : v_N_size ≤ 60) (hv_N_agree : v_N_agree = 0 ∨ v_N_agree = 1) (hv_N_quietUpTo : v_N_quietUpTo ≤ 60) (hx0 : x0 < 24) (hx1 : x1 < 24) : uMi l yX3_inOrder cX3_inOrder 4 (some .boolean) { frames := 2, cells := 0, slots := 0, locals := 37 } [.ref a_N, .int (nI x0), .int (nI x1)] D K [(a_N, .inr (3, [.ref a_N_sorts, .ref a_N_firsts, .ref a_N_seconds, .ref a_N_struck, .ref a_N_least, .ref a_N_greatest, .int (nI v_N_size), .int v_N_drawnFor, .int v_N_agree, .int (nI v_N_quietUpTo)])), (a_N_least, .inl (K 0, 24, .inl f_N_least)), (a_N_greatest, .inl (K 0, 24, .inl f_N_greatest))] sz (qwX3_inOrder a_N v_N_size v_N_drawnFor v_N_agree v_N_quietUpTo a_N_least f_N_least a_N_greatest f_N_greatest a_N_sorts a_N_firsts a_N_seconds a_N_struck x0 x1) (vwX3_inOrder K a_N v_N_size v_N_drawnFor v_N_agree v_N_quietUpTo a_N_least f_N_least a_N_greatest f_N_greatest a_N_sorts a_N_firsts a_N_seconds a_N_struck x0 x1) := by
  refine uMet (Qc := uQi D (qwX3_inOrder a_N v_N_size v_N_drawnFor v_N_agree v_N_quietUpTo a_N_least f_N_least a_N_greatest f_N_greatest a_N_sorts a_N_firsts a_N_seconds a_N_struck x0 x1) (vwX3_inOrder K a_N v_N_size v_N_drawnFor v_N_agree v_N_quietUpTo a_N_least f_N_least a_N_greatest f_N_greatest a_N_sorts a_N_firsts a_N_seconds a_N_struck x0 x1)) (ret := (some .boolean)) (by decide) (Nat.le_of_ble_eq_true rfl) ?_
  intro p e s m below meth c A ls hAe hsz B hP hD hS hl
  have hx := B.1
  have hb := B.2.1
  have hl : lv_has ls 4 [(0, .ref a_N), (1, .int (nI x0)), (2, .int (nI x1))] := hl
  refine lv_aload_n hx hb dX3_inOrder_0 rfl (lv_at hl 0 rfl) ?_
  refine uGet (ci := 3) (C := RX3) (T := TX3) (N := 10) (v := .ref a_N_least) B inlX3 hP 0 rfl rfl 4 rfl mfl_X3_25 rfl rfl dX3_inOrder_1 ?_
  refine lv_iload_n hx hb dX3_inOrder_4 rfl (lv_at hl 2 rfl) ?_
  refine uIald (i := (nI x1)) (j := x1) B hP 1 rfl (nI_in (by omega) (by omega)) (nI_clamp (by omega)) dX3_inOrder_5 ?_
  refine lv_aload_n hx hb dX3_inOrder_6 rfl (lv_at hl 0 rfl) ?_
  refine lv_pc (q := 7) rfl ?_
  refine uGet (ci := 3) (C := RX3) (T := TX3) (N := 10) (v := .ref a_N_least) B inlX3 hP 0 rfl rfl 4 rfl mfl_X3_25 rfl rfl dX3_inOrder_7 ?_
  refine lv_iload_n hx hb dX3_inOrder_10 rfl (lv_at hl 1 rfl) ?_
  refine uIald (i := (nI x0)) (j := x0) B hP 1 rfl (nI_in (by omega) (by omega)) (nI_clamp (by omega)) dX3_inOrder_11 ?_
  refine lv_icmp_lt (tgt := 30) hx hb dX3_inOrder_12 (by decide) (fun c1 => ?_) (fun c1 => ?_)
  · refine lv_iconst (v := 1) hx hb dX3_inOrder_30 (by decide) ?_
    refine lv_goto (tgt := 35) hx hb dX3_inOrder_31 (by decide) ?_
    refine lv_pc (q := 35) rfl ?_
    refine lv_istore_n (lv' := [(3, .int 1), (0, .ref a_N), (1, .int (nI x0)), (2, .int (nI x1))]) hx hb dX3_inOrder_35 rfl hl (by decide) rfl (fun ls hl => ?_)
    refine lv_aload_n hx hb dX3_inOrder_36 rfl (lv_at hl 1 rfl) ?_
    refine lv_iload_n hx hb dX3_inOrder_37 rfl (lv_at hl 3 rfl) ?_
    refine lv_aload_n hx hb dX3_inOrder_38 rfl (lv_at hl 1 rfl) ?_
    refine uGet (ci := 3) (C := RX3) (T := TX3) (N := 10) (v := .ref a_N_least) B inlX3 hP 0 rfl rfl 4 rfl mfl_X3_25 rfl rfl dX3_inOrder_39 ?_
    refine lv_iload_n hx hb dX3_inOrder_42 rfl (lv_at hl 2 rfl) ?_
    refine lv_pc (q := 43) rfl ?_
    refine uIald (i := (nI x0)) (j := x0) B hP 1 rfl (nI_in (by omega) (by omega)) (nI_clamp (by omega)) dX3_inOrder_43 ?_
    refine uVvJ (As := [.int (nI x1), .int (f_N_least x0)]) (rest := []) (wr := [(a_N_greatest, .inl (K 0, 24, .inl f_N_greatest))]) (wX3_notBefore l D K _ a_N v_N_size v_N_drawnFor v_N_agree v_N_quietUpTo a_N_least f_N_least a_N_sorts a_N_firsts a_N_seconds a_N_struck a_N_greatest x1 (f_N_least x0) (by omega) hv_N_agree (by omega) (by omega)) B hl.1 hP hD hS [0, 1] [2] rfl rfl rfl wd_X3_notBefore mml_X3_77 rfl rfl rfl rfl ⟨Nat.le_of_ble_eq_true rfl, Nat.le_of_ble_eq_true rfl⟩ (Nat.le_of_ble_eq_true rfl) ⟨Nat.le_of_ble_eq_true rfl, Nat.le_of_ble_eq_true rfl⟩ dX3_inOrder_44 (fun u H locs hw hP hD hS => ?_)
    obtain ⟨u3, e9⟩ : ∃ y, y = u := ⟨_, rfl⟩
    subst e9
    try dsimp only at hw
    have hP : va_P D vwCl [(a_N_greatest, .inl (K 0, 24, .inl f_N_greatest)), (a_N, .inr (3, [.ref a_N_sorts, .ref a_N_firsts, .ref a_N_seconds, .ref a_N_struck, .ref a_N_least, .ref a_N_greatest, .int (nI v_N_size), .int v_N_drawnFor, .int v_N_agree, .int (nI v_N_quietUpTo)])), (a_N_least, .inl (K 0, 24, .inl u3))] H := hP
    have hD := uDPJ hP hD
    refine lv_aload_n hx hb dX3_inOrder_47 rfl (lv_at hl 1 rfl) ?_
    refine lv_iload_n hx hb dX3_inOrder_48 rfl (lv_at hl 2 rfl) ?_
    refine lv_aload_n hx hb dX3_inOrder_49 rfl (lv_at hl 1 rfl) ?_
    refine uGet (ci := 3) (C := RX3) (T := TX3) (N := 10) (v := .ref a_N_greatest) B inlX3 hP 1 rfl rfl 5 rfl mfl_X3_28 rfl rfl dX3_inOrder_50 ?_
    refine lv_pc (q := 53) rfl ?_
    refine lv_iload_n hx hb dX3_inOrder_53 rfl (lv_at hl 3 rfl) ?_
    refine uIald (i := (nI x1)) (j := x1) B hP 0 rfl (nI_in (by omega) (by omega)) (nI_clamp (by omega)) dX3_inOrder_54 ?_
    refine uVvJ (As := [.int (nI x0), .int (f_N_greatest x1)]) (rest := []) (wr := [(a_N_least, .inl (K 0, 24, .inl u3))]) (wX3_notAfter l D K _ a_N v_N_size v_N_drawnFor v_N_agree v_N_quietUpTo a_N_greatest f_N_greatest a_N_sorts a_N_firsts a_N_seconds a_N_struck a_N_least x0 (f_N_greatest x1) (by omega) hv_N_agree (by omega) (by omega)) B hl.1 hP hD hS [1, 0] [2] rfl rfl rfl wd_X3_notAfter mml_X3_70 rfl rfl rfl rfl ⟨Nat.le_of_ble_eq_true rfl, Nat.le_of_ble_eq_true rfl⟩ (Nat.le_of_ble_eq_true rfl) ⟨Nat.le_of_ble_eq_true rfl, Nat.le_of_ble_eq_true rfl⟩ dX3_inOrder_55 (fun u H locs hw hP hD hS => ?_)
    obtain ⟨u5, e9⟩ : ∃ y, y = u := ⟨_, rfl⟩
    subst e9
    try dsimp only at hw
    have hP : va_P D vwCl [(a_N_least, .inl (K 0, 24, .inl u3)), (a_N, .inr (3, [.ref a_N_sorts, .ref a_N_firsts, .ref a_N_seconds, .ref a_N_struck, .ref a_N_least, .ref a_N_greatest, .int (nI v_N_size), .int v_N_drawnFor, .int v_N_agree, .int (nI v_N_quietUpTo)])), (a_N_greatest, .inl (K 0, 24, .inl u5))] H := hP
    have hD := uDPJ hP hD
    refine lv_iload_n hx hb dX3_inOrder_58 rfl (lv_at hl 0 rfl) ?_
    exact uRz (u3, u5) B rfl (Or.inr rfl) (uSub hP [1, 0, 2] rfl) (hD.sub [1, 0, 2] rfl rfl) hS dX3_inOrder_59
  refine lv_aload_n hx hb dX3_inOrder_15 rfl (lv_at hl 0 rfl) ?_
  refine uGet (ci := 3) (C := RX3) (T := TX3) (N := 10) (v := .ref a_N_greatest) B inlX3 hP 0 rfl rfl 5 rfl mfl_X3_28 rfl rfl dX3_inOrder_16 ?_
  refine lv_pc (q := 19) rfl ?_
  refine lv_iload_n hx hb dX3_inOrder_19 rfl (lv_at hl 1 rfl) ?_
  refine uIald (i := (nI x0)) (j := x0) B hP 2 rfl (nI_in (by omega) (by omega)) (nI_clamp (by omega)) dX3_inOrder_20 ?_
  refine lv_aload_n hx hb dX3_inOrder_21 rfl (lv_at hl 0 rfl) ?_
  refine uGet (ci := 3) (C := RX3) (T := TX3) (N := 10) (v := .ref a_N_greatest) B inlX3 hP 0 rfl rfl 5 rfl mfl_X3_28 rfl rfl dX3_inOrder_22 ?_
  refine lv_iload_n hx hb dX3_inOrder_25 rfl (lv_at hl 2 rfl) ?_
  refine uIald (i := (nI x1)) (j := x1) B hP 2 rfl (nI_in (by omega) (by omega)) (nI_clamp (by omega)) dX3_inOrder_26 ?_
  refine lv_pc (q := 27) rfl ?_
  refine lv_icmp_le (tgt := 34) hx hb dX3_inOrder_27 (by decide) (fun c6 => ?_) (fun c6 => ?_)
  · refine lv_iconst (v := 0) hx hb dX3_inOrder_34 (by decide) ?_
    refine lv_istore_n (lv' := [(3, .int 0), (0, .ref a_N), (1, .int (nI x0)), (2, .int (nI x1))]) hx hb dX3_inOrder_35 rfl hl (by decide) rfl (fun ls hl => ?_)
    refine lv_aload_n hx hb dX3_inOrder_36 rfl (lv_at hl 1 rfl) ?_
    refine lv_iload_n hx hb dX3_inOrder_37 rfl (lv_at hl 3 rfl) ?_
    refine lv_aload_n hx hb dX3_inOrder_38 rfl (lv_at hl 1 rfl) ?_
    refine lv_pc (q := 39) rfl ?_
    refine uGet (ci := 3) (C := RX3) (T := TX3) (N := 10) (v := .ref a_N_least) B inlX3 hP 0 rfl rfl 4 rfl mfl_X3_25 rfl rfl dX3_inOrder_39 ?_
    refine lv_iload_n hx hb dX3_inOrder_42 rfl (lv_at hl 2 rfl) ?_
    refine uIald (i := (nI x0)) (j := x0) B hP 1 rfl (nI_in (by omega) (by omega)) (nI_clamp (by omega)) dX3_inOrder_43 ?_
    refine uVvJ (As := [.int (nI x1), .int (f_N_least x0)]) (rest := []) (wr := [(a_N_greatest, .inl (K 0, 24, .inl f_N_greatest))]) (wX3_notBefore l D K _ a_N v_N_size v_N_drawnFor v_N_agree v_N_quietUpTo a_N_least f_N_least a_N_sorts a_N_firsts a_N_seconds a_N_struck a_N_greatest x1 (f_N_least x0) (by omega) hv_N_agree (by omega) (by omega)) B hl.1 hP hD hS [0, 1] [2] rfl rfl rfl wd_X3_notBefore mml_X3_77 rfl rfl rfl rfl ⟨Nat.le_of_ble_eq_true rfl, Nat.le_of_ble_eq_true rfl⟩ (Nat.le_of_ble_eq_true rfl) ⟨Nat.le_of_ble_eq_true rfl, Nat.le_of_ble_eq_true rfl⟩ dX3_inOrder_44 (fun u H locs hw hP hD hS => ?_)
    obtain ⟨u8, e9⟩ : ∃ y, y = u := ⟨_, rfl⟩
    subst e9
    try dsimp only at hw
    have hP : va_P D vwCl [(a_N_greatest, .inl (K 0, 24, .inl f_N_greatest)), (a_N, .inr (3, [.ref a_N_sorts, .ref a_N_firsts, .ref a_N_seconds, .ref a_N_struck, .ref a_N_least, .ref a_N_greatest, .int (nI v_N_size), .int v_N_drawnFor, .int v_N_agree, .int (nI v_N_quietUpTo)])), (a_N_least, .inl (K 0, 24, .inl u8))] H := hP
    have hD := uDPJ hP hD
    refine lv_aload_n hx hb dX3_inOrder_47 rfl (lv_at hl 1 rfl) ?_
    refine lv_iload_n hx hb dX3_inOrder_48 rfl (lv_at hl 2 rfl) ?_
    refine lv_pc (q := 49) rfl ?_
    refine lv_aload_n hx hb dX3_inOrder_49 rfl (lv_at hl 1 rfl) ?_
    refine uGet (ci := 3) (C := RX3) (T := TX3) (N := 10) (v := .ref a_N_greatest) B inlX3 hP 1 rfl rfl 5 rfl mfl_X3_28 rfl rfl dX3_inOrder_50 ?_
    refine lv_iload_n hx hb dX3_inOrder_53 rfl (lv_at hl 3 rfl) ?_
    refine uIald (i := (nI x1)) (j := x1) B hP 0 rfl (nI_in (by omega) (by omega)) (nI_clamp (by omega)) dX3_inOrder_54 ?_
    refine uVvJ (As := [.int (nI x0), .int (f_N_greatest x1)]) (rest := []) (wr := [(a_N_least, .inl (K 0, 24, .inl u8))]) (wX3_notAfter l D K _ a_N v_N_size v_N_drawnFor v_N_agree v_N_quietUpTo a_N_greatest f_N_greatest a_N_sorts a_N_firsts a_N_seconds a_N_struck a_N_least x0 (f_N_greatest x1) (by omega) hv_N_agree (by omega) (by omega)) B hl.1 hP hD hS [1, 0] [2] rfl rfl rfl wd_X3_notAfter mml_X3_70 rfl rfl rfl rfl ⟨Nat.le_of_ble_eq_true rfl, Nat.le_of_ble_eq_true rfl⟩ (Nat.le_of_ble_eq_true rfl) ⟨Nat.le_of_ble_eq_true rfl, Nat.le_of_ble_eq_true rfl⟩ dX3_inOrder_55 (fun u H locs hw hP hD hS => ?_)
    obtain ⟨u10, e9⟩ : ∃ y, y = u := ⟨_, rfl⟩
    subst e9
    try dsimp only at hw
    have hP : va_P D vwCl [(a_N_least, .inl (K 0, 24, .inl u8)), (a_N, .inr (3, [.ref a_N_sorts, .ref a_N_firsts, .ref a_N_seconds, .ref a_N_struck, .ref a_N_least, .ref a_N_greatest, .int (nI v_N_size), .int v_N_drawnFor, .int v_N_agree, .int (nI v_N_quietUpTo)])), (a_N_greatest, .inl (K 0, 24, .inl u10))] H := hP
    have hD := uDPJ hP hD
    refine lv_iload_n hx hb dX3_inOrder_58 rfl (lv_at hl 0 rfl) ?_
    refine lv_pc (q := 59) rfl ?_
    exact uRz (u8, u10) B rfl (Or.inl rfl) (uSub hP [1, 0, 2] rfl) (hD.sub [1, 0, 2] rfl rfl) hS dX3_inOrder_59
  refine lv_iconst (v := 1) hx hb dX3_inOrder_30 (by decide) ?_
  refine lv_goto (tgt := 35) hx hb dX3_inOrder_31 (by decide) ?_
  refine lv_istore_n (lv' := [(3, .int 1), (0, .ref a_N), (1, .int (nI x0)), (2, .int (nI x1))]) hx hb dX3_inOrder_35 rfl hl (by decide) rfl (fun ls hl => ?_)
  refine lv_aload_n hx hb dX3_inOrder_36 rfl (lv_at hl 1 rfl) ?_
  refine lv_iload_n hx hb dX3_inOrder_37 rfl (lv_at hl 3 rfl) ?_
  refine lv_pc (q := 38) rfl ?_
  refine lv_aload_n hx hb dX3_inOrder_38 rfl (lv_at hl 1 rfl) ?_
  refine uGet (ci := 3) (C := RX3) (T := TX3) (N := 10) (v := .ref a_N_least) B inlX3 hP 0 rfl rfl 4 rfl mfl_X3_25 rfl rfl dX3_inOrder_39 ?_
  refine lv_iload_n hx hb dX3_inOrder_42 rfl (lv_at hl 2 rfl) ?_
  refine uIald (i := (nI x0)) (j := x0) B hP 1 rfl (nI_in (by omega) (by omega)) (nI_clamp (by omega)) dX3_inOrder_43 ?_
  refine uVvJ (As := [.int (nI x1), .int (f_N_least x0)]) (rest := []) (wr := [(a_N_greatest, .inl (K 0, 24, .inl f_N_greatest))]) (wX3_notBefore l D K _ a_N v_N_size v_N_drawnFor v_N_agree v_N_quietUpTo a_N_least f_N_least a_N_sorts a_N_firsts a_N_seconds a_N_struck a_N_greatest x1 (f_N_least x0) (by omega) hv_N_agree (by omega) (by omega)) B hl.1 hP hD hS [0, 1] [2] rfl rfl rfl wd_X3_notBefore mml_X3_77 rfl rfl rfl rfl ⟨Nat.le_of_ble_eq_true rfl, Nat.le_of_ble_eq_true rfl⟩ (Nat.le_of_ble_eq_true rfl) ⟨Nat.le_of_ble_eq_true rfl, Nat.le_of_ble_eq_true rfl⟩ dX3_inOrder_44 (fun u H locs hw hP hD hS => ?_)
  obtain ⟨u12, e9⟩ : ∃ y, y = u := ⟨_, rfl⟩
  subst e9
  try dsimp only at hw
  have hP : va_P D vwCl [(a_N_greatest, .inl (K 0, 24, .inl f_N_greatest)), (a_N, .inr (3, [.ref a_N_sorts, .ref a_N_firsts, .ref a_N_seconds, .ref a_N_struck, .ref a_N_least, .ref a_N_greatest, .int (nI v_N_size), .int v_N_drawnFor, .int v_N_agree, .int (nI v_N_quietUpTo)])), (a_N_least, .inl (K 0, 24, .inl u12))] H := hP
  have hD := uDPJ hP hD
  refine lv_aload_n hx hb dX3_inOrder_47 rfl (lv_at hl 1 rfl) ?_
  refine lv_pc (q := 48) rfl ?_
  refine lv_iload_n hx hb dX3_inOrder_48 rfl (lv_at hl 2 rfl) ?_
  refine lv_aload_n hx hb dX3_inOrder_49 rfl (lv_at hl 1 rfl) ?_
  refine uGet (ci := 3) (C := RX3) (T := TX3) (N := 10) (v := .ref a_N_greatest) B inlX3 hP 1 rfl rfl 5 rfl mfl_X3_28 rfl rfl dX3_inOrder_50 ?_
  refine lv_iload_n hx hb dX3_inOrder_53 rfl (lv_at hl 3 rfl) ?_
  refine uIald (i := (nI x1)) (j := x1) B hP 0 rfl (nI_in (by omega) (by omega)) (nI_clamp (by omega)) dX3_inOrder_54 ?_
  refine uVvJ (As := [.int (nI x0), .int (f_N_greatest x1)]) (rest := []) (wr := [(a_N_least, .inl (K 0, 24, .inl u12))]) (wX3_notAfter l D K _ a_N v_N_size v_N_drawnFor v_N_agree v_N_quietUpTo a_N_greatest f_N_greatest a_N_sorts a_N_firsts a_N_seconds a_N_struck a_N_least x0 (f_N_greatest x1) (by omega) hv_N_agree (by omega) (by omega)) B hl.1 hP hD hS [1, 0] [2] rfl rfl rfl wd_X3_notAfter mml_X3_70 rfl rfl rfl rfl ⟨Nat.le_of_ble_eq_true rfl, Nat.le_of_ble_eq_true rfl⟩ (Nat.le_of_ble_eq_true rfl) ⟨Nat.le_of_ble_eq_true rfl, Nat.le_of_ble_eq_true rfl⟩ dX3_inOrder_55 (fun u H locs hw hP hD hS => ?_)
  obtain ⟨u14, e9⟩ : ∃ y, y = u := ⟨_, rfl⟩
  subst e9
  try dsimp only at hw
  have hP : va_P D vwCl [(a_N_least, .inl (K 0, 24, .inl u12)), (a_N, .inr (3, [.ref a_N_sorts, .ref a_N_firsts, .ref a_N_seconds, .ref a_N_struck, .ref a_N_least, .ref a_N_greatest, .int (nI v_N_size), .int v_N_drawnFor, .int v_N_agree, .int (nI v_N_quietUpTo)])), (a_N_greatest, .inl (K 0, 24, .inl u14))] H := hP
  have hD := uDPJ hP hD
  refine lv_pc (q := 58) rfl ?_
  refine lv_iload_n hx hb dX3_inOrder_58 rfl (lv_at hl 0 rfl) ?_
  exact uRz (u12, u14) B rfl (Or.inr rfl) (uSub hP [1, 0, 2] rfl) (hD.sub [1, 0, 2] rfl rfl) hS dX3_inOrder_59
def qwX3_handOn (a_N : Nat) (v_N_size : Nat) (v_N_drawnFor : Int32) (v_N_agree : Int32) (v_N_quietUpTo : Nat) (a_N_sorts : Nat) (f_N_sorts : Nat → Int32) (a_N_firsts : Nat) (f_N_firsts : Nat → Int32) (a_N_seconds : Nat) (f_N_seconds : Nat → Int32) (a_N_struck : Nat) (f_N_struck : Nat → Int32) (a_N_least : Nat) (f_N_least : Nat → Int32) (a_N_greatest : Nat) (f_N_greatest : Nat → Int32) (x0 : Nat) : Int32 → ((Nat → Int32) × (Nat → Int32)) → Prop := (fun (r : Int32) (u : (Nat → Int32) × (Nat → Int32)) => (r = 0 ∨ r = 1))
def vwX3_handOn (K : Nat → ClassId) (a_N : Nat) (v_N_size : Nat) (v_N_drawnFor : Int32) (v_N_agree : Int32) (v_N_quietUpTo : Nat) (a_N_sorts : Nat) (f_N_sorts : Nat → Int32) (a_N_firsts : Nat) (f_N_firsts : Nat → Int32) (a_N_seconds : Nat) (f_N_seconds : Nat → Int32) (a_N_struck : Nat) (f_N_struck : Nat → Int32) (a_N_least : Nat) (f_N_least : Nat → Int32) (a_N_greatest : Nat) (f_N_greatest : Nat → Int32) (x0 : Nat) : ((Nat → Int32) × (Nat → Int32)) → va_W := (fun (u : (Nat → Int32) × (Nat → Int32)) => [(a_N, .inr (3, [.ref a_N_sorts, .ref a_N_firsts, .ref a_N_seconds, .ref a_N_struck, .ref a_N_least, .ref a_N_greatest, .int (nI v_N_size), .int v_N_drawnFor, .int v_N_agree, .int (nI v_N_quietUpTo)])), (a_N_sorts, .inl (K 0, 60, .inl f_N_sorts)), (a_N_firsts, .inl (K 0, 60, .inl f_N_firsts)), (a_N_seconds, .inl (K 0, 60, .inl f_N_seconds)), (a_N_struck, .inl (K 1, 60, .inl f_N_struck)), (a_N_least, .inl (K 0, 24, .inl (u.1))), (a_N_greatest, .inl (K 0, 24, .inl (u.2)))])
set_option maxHeartbeats 4000000 in
set_option maxRecDepth 100000 in
theorem wX3_handOn (l : Launch) (D : va_G) (K : Nat → ClassId) (sz : Nat) (a_N : Nat) (v_N_size : Nat) (v_N_drawnFor : Int32) (v_N_agree : Int32) (v_N_quietUpTo : Nat) (a_N_sorts : Nat) (f_N_sorts : Nat → Int32) (a_N_firsts : Nat) (f_N_firsts : Nat → Int32) (a_N_seconds : Nat) (f_N_seconds : Nat → Int32) (a_N_struck : Nat) (f_N_struck : Nat → Int32) (a_N_least : Nat) (f_N_least : Nat → Int32) (a_N_greatest : Nat) (f_N_greatest : Nat → Int32) (x0 : Nat) (hv_N_size : v_N_size ≤ 60) (hv_N_agree : v_N_agree = 0 ∨ v_N_agree = 1) (hv_N_quietUpTo : v_N_quietUpTo ≤ 60) (r_N_sorts : uRg f_N_sorts 0 6) (r_N_firsts : uRg f_N_firsts 0 59) (r_N_seconds : uRg f_N_seconds 0 500) (b_N_struck : ∀ k, f_N_struck k = 0 ∨ f_N_struck k = 1) (hx0 : x0 < 61) (i_uNt : uNt f_N_sorts f_N_firsts f_N_seconds) : uMi l yX3_handOn cX3_handOn 4 (some .boolean) { frames := 3, cells := 0, slots := 0, locals := 60 } [.ref a_N, .int (nI x0)] D K [(a_N, .inr (3, [.ref a_N_sorts, .ref a_N_firsts, .ref a_N_seconds, .ref a_N_struck, .ref a_N_least, .ref a_N_greatest, .int (nI v_N_size), .int v_N_drawnFor, .int v_N_agree, .int (nI v_N_quietUpTo)])), (a_N_sorts, .inl (K 0, 60, .inl f_N_sorts)), (a_N_firsts, .inl (K 0, 60, .inl f_N_firsts)), (a_N_seconds, .inl (K 0, 60, .inl f_N_seconds)), (a_N_struck, .inl (K 1, 60, .inl f_N_struck)), (a_N_least, .inl (K 0, 24, .inl f_N_least)), (a_N_greatest, .inl (K 0, 24, .inl f_N_greatest))] sz (qwX3_handOn a_N v_N_size v_N_drawnFor v_N_agree v_N_quietUpTo a_N_sorts f_N_sorts a_N_firsts f_N_firsts a_N_seconds f_N_seconds a_N_struck f_N_struck a_N_least f_N_least a_N_greatest f_N_greatest x0) (vwX3_handOn K a_N v_N_size v_N_drawnFor v_N_agree v_N_quietUpTo a_N_sorts f_N_sorts a_N_firsts f_N_firsts a_N_seconds f_N_seconds a_N_struck f_N_struck a_N_least f_N_least a_N_greatest f_N_greatest x0) := by
  refine uMet (Qc := uQi D (qwX3_handOn a_N v_N_size v_N_drawnFor v_N_agree v_N_quietUpTo a_N_sorts f_N_sorts a_N_firsts f_N_firsts a_N_seconds f_N_seconds a_N_struck f_N_struck a_N_least f_N_least a_N_greatest f_N_greatest x0) (vwX3_handOn K a_N v_N_size v_N_drawnFor v_N_agree v_N_quietUpTo a_N_sorts f_N_sorts a_N_firsts f_N_firsts a_N_seconds f_N_seconds a_N_struck f_N_struck a_N_least f_N_least a_N_greatest f_N_greatest x0)) (ret := (some .boolean)) (by decide) (Nat.le_of_ble_eq_true rfl) ?_
  intro p e s m below meth c A ls hAe hsz B hP hD hS hl
  have hx := B.1
  have hb := B.2.1
  have hl : lv_has ls 4 [(0, .ref a_N), (1, .int (nI x0))] := hl
  refine lv_iconst (v := 0) hx hb dX3_handOn_0 (by decide) ?_
  refine lv_istore_n (lv' := [(2, .int 0), (0, .ref a_N), (1, .int (nI x0))]) hx hb dX3_handOn_1 rfl hl (by decide) rfl (fun ls hl => ?_)
  refine lv_iconst (v := 0) hx hb dX3_handOn_2 (by decide) ?_
  refine lv_istore_n (lv' := [(3, .int 0), (2, .int 0), (0, .ref a_N), (1, .int (nI x0))]) hx hb dX3_handOn_3 rfl hl (by decide) rfl (fun ls hl => ?_)
  have L6 : ∀ (n9 : Nat) (j1 : Nat) (f2 : Nat → Int32) (f3 : Nat → Int32) (y4 : Int32), (j1 ≤ 12) → (y4 = 0 ∨ y4 = 1) → 12 - j1 < n9 → ∀ (H : Heap) (locs : List Loc) (ls : Array Slot), va_P D vwCl [(a_N, .inr (3, [.ref a_N_sorts, .ref a_N_firsts, .ref a_N_seconds, .ref a_N_struck, .ref a_N_least, .ref a_N_greatest, .int (nI v_N_size), .int v_N_drawnFor, .int v_N_agree, .int (nI v_N_quietUpTo)])), (a_N_sorts, .inl (K 0, 60, .inl f_N_sorts)), (a_N_firsts, .inl (K 0, 60, .inl f_N_firsts)), (a_N_seconds, .inl (K 0, 60, .inl f_N_seconds)), (a_N_struck, .inl (K 1, 60, .inl f_N_struck)), (a_N_least, .inl (K 0, 24, .inl f2)), (a_N_greatest, .inl (K 0, 24, .inl f3))] H → va_D A [(a_N, .inr (3, [.ref a_N_sorts, .ref a_N_firsts, .ref a_N_seconds, .ref a_N_struck, .ref a_N_least, .ref a_N_greatest, .int (nI v_N_size), .int v_N_drawnFor, .int v_N_agree, .int (nI v_N_quietUpTo)])), (a_N_sorts, .inl (K 0, 60, .inl f_N_sorts)), (a_N_firsts, .inl (K 0, 60, .inl f_N_firsts)), (a_N_seconds, .inl (K 0, 60, .inl f_N_seconds)), (a_N_struck, .inl (K 1, 60, .inl f_N_struck)), (a_N_least, .inl (K 0, 24, .inl f2)), (a_N_greatest, .inl (K 0, 24, .inl f3))] → va_S A s.heap H locs → lv_has ls 4 [(3, .int (nI j1)), (2, .int y4), (0, .ref a_N), (1, .int (nI x0))] → W p l e { frames := 3, cells := 0, slots := 0, locals := 60 } s m ([.ref a_N, .int (nI x0)] : List Value).toArray below meth c H locs 0 0 (MQ below (uQi D (qwX3_handOn a_N v_N_size v_N_drawnFor v_N_agree v_N_quietUpTo a_N_sorts f_N_sorts a_N_firsts f_N_firsts a_N_seconds f_N_seconds a_N_struck f_N_struck a_N_least f_N_least a_N_greatest f_N_greatest x0) (vwX3_handOn K a_N v_N_size v_N_drawnFor v_N_agree v_N_quietUpTo a_N_sorts f_N_sorts a_N_firsts f_N_firsts a_N_seconds f_N_seconds a_N_struck f_N_struck a_N_least f_N_least a_N_greatest f_N_greatest x0) A) ([.ref a_N, .int (nI x0)] : List Value).toArray s 0 0 A) (F0 m 4 ls []) := by
    intro n9
    induction n9 with
    | zero => intros; exact absurd ‹_ < 0› (Nat.not_lt_zero _)
    | succ n4_ ih4 =>
      intro j1 f2 f3 y4 hj1 hy4 hm4 H locs ls hP hD hS hl
      refine lv_iload_n hx hb dX3_handOn_4 rfl (lv_at hl 0 rfl) ?_
      refine lv_pc (q := 5) rfl ?_
      refine lv_bipush (v := 12) hx hb dX3_handOn_5 (by decide) ?_
      refine lv_icmp_ge (tgt := 31) hx hb dX3_handOn_7 (by decide) (fun c7 => ?_) (fun c7 => ?_)
      · have k_7 : 12 ≤ j1 := (nI_leI (a := 12) (b := j1) (by omega) (by omega)).mp c7
        refine lv_iconst (v := 0) hx hb dX3_handOn_31 (by decide) ?_
        refine lv_istore_n (lv' := [(3, .int 0), (2, .int y4), (0, .ref a_N), (1, .int (nI x0))]) hx hb dX3_handOn_32 rfl hl (by decide) rfl (fun ls hl => ?_)
        have L13 : ∀ (n9 : Nat) (j8 : Nat) (f9 : Nat → Int32) (f10 : Nat → Int32) (y11 : Int32), (j8 ≤ x0) → (y11 = 0 ∨ y11 = 1) → x0 - j8 < n9 → ∀ (H : Heap) (locs : List Loc) (ls : Array Slot), va_P D vwCl [(a_N, .inr (3, [.ref a_N_sorts, .ref a_N_firsts, .ref a_N_seconds, .ref a_N_struck, .ref a_N_least, .ref a_N_greatest, .int (nI v_N_size), .int v_N_drawnFor, .int v_N_agree, .int (nI v_N_quietUpTo)])), (a_N_sorts, .inl (K 0, 60, .inl f_N_sorts)), (a_N_firsts, .inl (K 0, 60, .inl f_N_firsts)), (a_N_seconds, .inl (K 0, 60, .inl f_N_seconds)), (a_N_struck, .inl (K 1, 60, .inl f_N_struck)), (a_N_least, .inl (K 0, 24, .inl f9)), (a_N_greatest, .inl (K 0, 24, .inl f10))] H → va_D A [(a_N, .inr (3, [.ref a_N_sorts, .ref a_N_firsts, .ref a_N_seconds, .ref a_N_struck, .ref a_N_least, .ref a_N_greatest, .int (nI v_N_size), .int v_N_drawnFor, .int v_N_agree, .int (nI v_N_quietUpTo)])), (a_N_sorts, .inl (K 0, 60, .inl f_N_sorts)), (a_N_firsts, .inl (K 0, 60, .inl f_N_firsts)), (a_N_seconds, .inl (K 0, 60, .inl f_N_seconds)), (a_N_struck, .inl (K 1, 60, .inl f_N_struck)), (a_N_least, .inl (K 0, 24, .inl f9)), (a_N_greatest, .inl (K 0, 24, .inl f10))] → va_S A s.heap H locs → lv_has ls 4 [(3, .int (nI j8)), (2, .int y11), (0, .ref a_N), (1, .int (nI x0))] → W p l e { frames := 3, cells := 0, slots := 0, locals := 60 } s m ([.ref a_N, .int (nI x0)] : List Value).toArray below meth c H locs 0 0 (MQ below (uQi D (qwX3_handOn a_N v_N_size v_N_drawnFor v_N_agree v_N_quietUpTo a_N_sorts f_N_sorts a_N_firsts f_N_firsts a_N_seconds f_N_seconds a_N_struck f_N_struck a_N_least f_N_least a_N_greatest f_N_greatest x0) (vwX3_handOn K a_N v_N_size v_N_drawnFor v_N_agree v_N_quietUpTo a_N_sorts f_N_sorts a_N_firsts f_N_firsts a_N_seconds f_N_seconds a_N_struck f_N_struck a_N_least f_N_least a_N_greatest f_N_greatest x0) A) ([.ref a_N, .int (nI x0)] : List Value).toArray s 0 0 A) (F0 m 33 ls []) := by
          intro n9
          induction n9 with
          | zero => intros; exact absurd ‹_ < 0› (Nat.not_lt_zero _)
          | succ n33_ ih33 =>
            intro j8 f9 f10 y11 hj8 hy11 hm33 H locs ls hP hD hS hl
            refine lv_iload_n hx hb dX3_handOn_33 rfl (lv_at hl 0 rfl) ?_
            refine lv_iload_n hx hb dX3_handOn_34 rfl (lv_at hl 3 rfl) ?_
            refine lv_pc (q := 35) rfl ?_
            refine lv_icmp_ge (tgt := 160) hx hb dX3_handOn_35 (by decide) (fun c14 => ?_) (fun c14 => ?_)
            · have k_14 : x0 ≤ j8 := (nI_leI (a := x0) (b := j8) (by omega) (by omega)).mp c14
              refine lv_iload_n hx hb dX3_handOn_160 rfl (lv_at hl 1 rfl) ?_
              exact uRz (f9, f10) B (uBz hy11) hy11 (uSub hP [0, 1, 2, 3, 4, 5, 6] rfl) (hD.sub [0, 1, 2, 3, 4, 5, 6] rfl rfl) hS dX3_handOn_161
            have k_14 : ¬ x0 ≤ j8 := fun h9 => c14 ((nI_leI (a := x0) (b := j8) (by omega) (by omega)).mpr h9)
            refine lv_aload_n hx hb dX3_handOn_38 rfl (lv_at hl 2 rfl) ?_
            refine uGet (ci := 3) (C := RX3) (T := TX3) (N := 10) (v := .ref a_N_struck) B inlX3 hP 0 rfl rfl 3 rfl mfl_X3_21 rfl rfl dX3_handOn_39 ?_
            refine lv_iload_n hx hb dX3_handOn_42 rfl (lv_at hl 0 rfl) ?_
            refine uZald (i := (nI j8)) (j := j8) B hP 4 rfl (nI_in (by omega) (by omega)) (nI_clamp (by omega)) dX3_handOn_43 ?_
            refine lv_if_ne (tgt := 85) hx hb dX3_handOn_44 (by decide) (fun c15 => ?_) (fun c15 => ?_)
            · refine lv_pc (q := 85) rfl ?_
              refine lv_aload_n hx hb dX3_handOn_85 rfl (lv_at hl 2 rfl) ?_
              refine uGet (ci := 3) (C := RX3) (T := TX3) (N := 10) (v := .ref a_N_struck) B inlX3 hP 0 rfl rfl 3 rfl mfl_X3_21 rfl rfl dX3_handOn_86 ?_
              refine lv_iload_n hx hb dX3_handOn_89 rfl (lv_at hl 0 rfl) ?_
              refine uZald (i := (nI j8)) (j := j8) B hP 4 rfl (nI_in (by omega) (by omega)) (nI_clamp (by omega)) dX3_handOn_90 ?_
              refine lv_if_ne (tgt := 154) hx hb dX3_handOn_91 (by decide) (fun _ => ?_) (fun h9 => absurd h9 c15)
              refine lv_iinc (v := nI (j8 + 1)) (lv' := [(3, .int (nI (j8 + 1))), (2, .int y11), (0, .ref a_N), (1, .int (nI x0))]) hx hb dX3_handOn_154 hl (k := 0) rfl (nI_1 _) (by decide) rfl (fun ls hl => ?_)
              refine lv_pc (q := 157) rfl ?_
              refine lv_goto (tgt := 33) hx hb dX3_handOn_157 (by decide) ?_
              refine lv_pc (q := 33) rfl ?_
              refine W.widen (k := 0) (n := 0) (Nat.le_of_ble_eq_true rfl) (Nat.le_of_ble_eq_true rfl) ?_
              exact ih33 (j8 + 1) f9 f10 y11 (by omega) hy11 (by omega) _ _ _ (uSub hP [0, 1, 2, 3, 4, 5, 6] rfl) (hD.sub [0, 1, 2, 3, 4, 5, 6] rfl rfl) hS (lv_sub hl [0, 1, 2, 3] rfl)
            refine lv_pc (q := 47) rfl ?_
            refine lv_aload_n hx hb dX3_handOn_47 rfl (lv_at hl 2 rfl) ?_
            refine uGet (ci := 3) (C := RX3) (T := TX3) (N := 10) (v := .ref a_N_sorts) B inlX3 hP 0 rfl rfl 0 rfl mfl_X3_9 rfl rfl dX3_handOn_48 ?_
            refine lv_iload_n hx hb dX3_handOn_51 rfl (lv_at hl 0 rfl) ?_
            refine uIald (i := (nI j8)) (j := j8) B hP 1 rfl (nI_in (by omega) (by omega)) (nI_clamp (by omega)) dX3_handOn_52 ?_
            obtain ⟨a16, ha16, ea16⟩ := uRnat r_N_sorts j8 (by decide)
            simp only [Int32.reduceToInt] at ha16
            refine lv_fixi (y := (nI a16)) ea16 ?_
            refine lv_iconst (v := 2) hx hb dX3_handOn_53 (by decide) ?_
            refine lv_icmp_ne (tgt := 85) hx hb dX3_handOn_54 (by decide) (fun c17 => ?_) (fun c17 => ?_)
            · have k_17 : ¬ a16 = 2 := fun h9 => c17 ((nI_eq (a := a16) (b := 2) (by omega) (by omega)).mpr h9)
              refine lv_pc (q := 85) rfl ?_
              refine lv_aload_n hx hb dX3_handOn_85 rfl (lv_at hl 2 rfl) ?_
              refine uGet (ci := 3) (C := RX3) (T := TX3) (N := 10) (v := .ref a_N_struck) B inlX3 hP 0 rfl rfl 3 rfl mfl_X3_21 rfl rfl dX3_handOn_86 ?_
              refine lv_iload_n hx hb dX3_handOn_89 rfl (lv_at hl 0 rfl) ?_
              refine uZald (i := (nI j8)) (j := j8) B hP 4 rfl (nI_in (by omega) (by omega)) (nI_clamp (by omega)) dX3_handOn_90 ?_
              refine lv_if_ne (tgt := 154) hx hb dX3_handOn_91 (by decide) (fun h9 => absurd c15 h9) (fun _ => ?_)
              refine lv_aload_n hx hb dX3_handOn_94 rfl (lv_at hl 2 rfl) ?_
              refine lv_pc (q := 95) rfl ?_
              refine uGet (ci := 3) (C := RX3) (T := TX3) (N := 10) (v := .ref a_N_sorts) B inlX3 hP 0 rfl rfl 0 rfl mfl_X3_9 rfl rfl dX3_handOn_95 ?_
              refine lv_iload_n hx hb dX3_handOn_98 rfl (lv_at hl 0 rfl) ?_
              refine uIald (i := (nI j8)) (j := j8) B hP 1 rfl (nI_in (by omega) (by omega)) (nI_clamp (by omega)) dX3_handOn_99 ?_
              refine lv_fixi (y := (nI a16)) ea16 ?_
              refine lv_iconst (v := 3) hx hb dX3_handOn_100 (by decide) ?_
              refine lv_icmp_ne (tgt := 154) hx hb dX3_handOn_101 (by decide) (fun c18 => ?_) (fun c18 => ?_)
              · have k_18 : ¬ a16 = 3 := fun h9 => c18 ((nI_eq (a := a16) (b := 3) (by omega) (by omega)).mpr h9)
                refine lv_iinc (v := nI (j8 + 1)) (lv' := [(3, .int (nI (j8 + 1))), (2, .int y11), (0, .ref a_N), (1, .int (nI x0))]) hx hb dX3_handOn_154 hl (k := 0) rfl (nI_1 _) (by decide) rfl (fun ls hl => ?_)
                refine lv_pc (q := 157) rfl ?_
                refine lv_goto (tgt := 33) hx hb dX3_handOn_157 (by decide) ?_
                refine lv_pc (q := 33) rfl ?_
                refine W.widen (k := 0) (n := 0) (Nat.le_of_ble_eq_true rfl) (Nat.le_of_ble_eq_true rfl) ?_
                exact ih33 (j8 + 1) f9 f10 y11 (by omega) hy11 (by omega) _ _ _ (uSub hP [0, 1, 2, 3, 4, 5, 6] rfl) (hD.sub [0, 1, 2, 3, 4, 5, 6] rfl rfl) hS (lv_sub hl [0, 1, 2, 3] rfl)
              have k_18 : a16 = 3 := (nI_eq (a := a16) (b := 3) (by omega) (by omega)).mp c18
              refine lv_iload_n hx hb dX3_handOn_104 rfl (lv_at hl 1 rfl) ?_
              refine lv_pc (q := 105) rfl ?_
              refine lv_aload_n hx hb dX3_handOn_105 rfl (lv_at hl 2 rfl) ?_
              refine lv_aload_n hx hb dX3_handOn_106 rfl (lv_at hl 2 rfl) ?_
              refine uGet (ci := 3) (C := RX3) (T := TX3) (N := 10) (v := .ref a_N_firsts) B inlX3 hP 0 rfl rfl 1 rfl mfl_X3_15 rfl rfl dX3_handOn_107 ?_
              refine lv_iload_n hx hb dX3_handOn_110 rfl (lv_at hl 0 rfl) ?_
              refine uIald (i := (nI j8)) (j := j8) B hP 2 rfl (nI_in (by omega) (by omega)) (nI_clamp (by omega)) dX3_handOn_111 ?_
              obtain ⟨a19, ha19, ea19⟩ := uRnat r_N_firsts j8 (by decide)
              simp only [Int32.reduceToInt] at ha19
              refine lv_fixi (y := (nI a19)) ea19 ?_
              have na19 := uNtF i_uNt j8 ea16 ea19 (by omega) (by omega)
              refine uSi (As := [.int (nI a19)]) (rest := [.ref a_N, .int y11]) (wr := [(a_N, .inr (3, [.ref a_N_sorts, .ref a_N_firsts, .ref a_N_seconds, .ref a_N_struck, .ref a_N_least, .ref a_N_greatest, .int (nI v_N_size), .int v_N_drawnFor, .int v_N_agree, .int (nI v_N_quietUpTo)])), (a_N_sorts, .inl (K 0, 60, .inl f_N_sorts)), (a_N_firsts, .inl (K 0, 60, .inl f_N_firsts)), (a_N_seconds, .inl (K 0, 60, .inl f_N_seconds)), (a_N_struck, .inl (K 1, 60, .inl f_N_struck)), (a_N_least, .inl (K 0, 24, .inl f9)), (a_N_greatest, .inl (K 0, 24, .inl f10))]) [] B hl.1 hP hD hS [] [0, 1, 2, 3, 4, 5, 6] rfl rfl rfl (wX3_begin l D K _ a19 (by omega)) wd_X3_begin mml_X3_66 rfl rfl ⟨Nat.le_of_ble_eq_true rfl, Nat.le_of_ble_eq_true rfl⟩ (Nat.le_of_ble_eq_true rfl) ⟨Nat.le_of_ble_eq_true rfl, Nat.le_of_ble_eq_true rfl⟩ dX3_handOn_112 (fun r20 u H locs hw hP hD hS => ?_)
              try dsimp only at hw
              have w21 := hw
              have hP : va_P D vwCl [(a_N, .inr (3, [.ref a_N_sorts, .ref a_N_firsts, .ref a_N_seconds, .ref a_N_struck, .ref a_N_least, .ref a_N_greatest, .int (nI v_N_size), .int v_N_drawnFor, .int v_N_agree, .int (nI v_N_quietUpTo)])), (a_N_sorts, .inl (K 0, 60, .inl f_N_sorts)), (a_N_firsts, .inl (K 0, 60, .inl f_N_firsts)), (a_N_seconds, .inl (K 0, 60, .inl f_N_seconds)), (a_N_struck, .inl (K 1, 60, .inl f_N_struck)), (a_N_least, .inl (K 0, 24, .inl f9)), (a_N_greatest, .inl (K 0, 24, .inl f10))] H := hP
              have hD := uDPJ hP hD
              obtain ⟨a22, ha22, ea22⟩ := w21
              refine lv_fixi (y := (nI a22)) ea22 ?_
              refine lv_pc (q := 115) rfl ?_
              refine lv_aload_n hx hb dX3_handOn_115 rfl (lv_at hl 2 rfl) ?_
              refine uGet (ci := 3) (C := RX3) (T := TX3) (N := 10) (v := .ref a_N_seconds) B inlX3 hP 0 rfl rfl 2 rfl mfl_X3_18 rfl rfl dX3_handOn_116 ?_
              refine lv_iload_n hx hb dX3_handOn_119 rfl (lv_at hl 0 rfl) ?_
              refine uIald (i := (nI j8)) (j := j8) B hP 3 rfl (nI_in (by omega) (by omega)) (nI_clamp (by omega)) dX3_handOn_120 ?_
              obtain ⟨a23, ha23, ea23⟩ := uRnat r_N_seconds j8 (by decide)
              simp only [Int32.reduceToInt] at ha23
              refine lv_fixi (y := (nI a23)) ea23 ?_
              have na23 := uNtG i_uNt j8 ea16 ea23 (by omega) (by omega)
              refine uSi (As := [.int (nI a23)]) (rest := [.int (nI a22), .ref a_N, .int y11]) (wr := [(a_N, .inr (3, [.ref a_N_sorts, .ref a_N_firsts, .ref a_N_seconds, .ref a_N_struck, .ref a_N_least, .ref a_N_greatest, .int (nI v_N_size), .int v_N_drawnFor, .int v_N_agree, .int (nI v_N_quietUpTo)])), (a_N_sorts, .inl (K 0, 60, .inl f_N_sorts)), (a_N_firsts, .inl (K 0, 60, .inl f_N_firsts)), (a_N_seconds, .inl (K 0, 60, .inl f_N_seconds)), (a_N_struck, .inl (K 1, 60, .inl f_N_struck)), (a_N_least, .inl (K 0, 24, .inl f9)), (a_N_greatest, .inl (K 0, 24, .inl f10))]) [] B hl.1 hP hD hS [] [0, 1, 2, 3, 4, 5, 6] rfl rfl rfl (wX3_end l D K _ a23 (by omega)) wd_X3_end mml_X3_74 rfl rfl ⟨Nat.le_of_ble_eq_true rfl, Nat.le_of_ble_eq_true rfl⟩ (Nat.le_of_ble_eq_true rfl) ⟨Nat.le_of_ble_eq_true rfl, Nat.le_of_ble_eq_true rfl⟩ dX3_handOn_121 (fun r24 u H locs hw hP hD hS => ?_)
              try dsimp only at hw
              have w25 := hw
              have hP : va_P D vwCl [(a_N, .inr (3, [.ref a_N_sorts, .ref a_N_firsts, .ref a_N_seconds, .ref a_N_struck, .ref a_N_least, .ref a_N_greatest, .int (nI v_N_size), .int v_N_drawnFor, .int v_N_agree, .int (nI v_N_quietUpTo)])), (a_N_sorts, .inl (K 0, 60, .inl f_N_sorts)), (a_N_firsts, .inl (K 0, 60, .inl f_N_firsts)), (a_N_seconds, .inl (K 0, 60, .inl f_N_seconds)), (a_N_struck, .inl (K 1, 60, .inl f_N_struck)), (a_N_least, .inl (K 0, 24, .inl f9)), (a_N_greatest, .inl (K 0, 24, .inl f10))] H := hP
              have hD := uDPJ hP hD
              obtain ⟨a26, ha26, ea26⟩ := w25
              refine lv_fixi (y := (nI a26)) ea26 ?_
              refine uViJ (As := [.int (nI a22), .int (nI a26)]) (rest := [.int y11]) (wr := [(a_N_sorts, .inl (K 0, 60, .inl f_N_sorts)), (a_N_firsts, .inl (K 0, 60, .inl f_N_firsts)), (a_N_seconds, .inl (K 0, 60, .inl f_N_seconds)), (a_N_struck, .inl (K 1, 60, .inl f_N_struck))]) (wX3_inOrder l D K _ a_N v_N_size v_N_drawnFor v_N_agree v_N_quietUpTo a_N_least f9 a_N_greatest f10 a_N_sorts a_N_firsts a_N_seconds a_N_struck a22 a26 (by omega) hv_N_agree (by omega) (by omega) (by omega)) B hl.1 hP hD hS [0, 5, 6] [1, 2, 3, 4] rfl rfl rfl wd_X3_inOrder mml_X3_89 rfl rfl rfl rfl ⟨Nat.le_of_ble_eq_true rfl, Nat.le_of_ble_eq_true rfl⟩ (Nat.le_of_ble_eq_true rfl) ⟨Nat.le_of_ble_eq_true rfl, Nat.le_of_ble_eq_true rfl⟩ dX3_handOn_124 (fun r27 u H locs hw hP hD hS => ?_)
              obtain ⟨u28, u29⟩ := u
              try dsimp only at hw
              have w30 := hw
              have hP : va_P D vwCl [(a_N_sorts, .inl (K 0, 60, .inl f_N_sorts)), (a_N_firsts, .inl (K 0, 60, .inl f_N_firsts)), (a_N_seconds, .inl (K 0, 60, .inl f_N_seconds)), (a_N_struck, .inl (K 1, 60, .inl f_N_struck)), (a_N, .inr (3, [.ref a_N_sorts, .ref a_N_firsts, .ref a_N_seconds, .ref a_N_struck, .ref a_N_least, .ref a_N_greatest, .int (nI v_N_size), .int v_N_drawnFor, .int v_N_agree, .int (nI v_N_quietUpTo)])), (a_N_least, .inl (K 0, 24, .inl u28)), (a_N_greatest, .inl (K 0, 24, .inl u29))] H := hP
              have hD := uDPJ hP hD
              refine lv_pc (q := 127) rfl ?_
              refine lv_ior hx hb dX3_handOn_127 ?_
              refine lv_istore_n (lv' := [(2, .int (y11 ||| r27)), (3, .int (nI j8)), (0, .ref a_N), (1, .int (nI x0))]) hx hb dX3_handOn_128 rfl hl (by decide) rfl (fun ls hl => ?_)
              refine lv_iload_n hx hb dX3_handOn_129 rfl (lv_at hl 0 rfl) ?_
              refine lv_aload_n hx hb dX3_handOn_130 rfl (lv_at hl 2 rfl) ?_
              refine lv_aload_n hx hb dX3_handOn_131 rfl (lv_at hl 2 rfl) ?_
              refine uGet (ci := 3) (C := RX3) (T := TX3) (N := 10) (v := .ref a_N_seconds) B inlX3 hP 4 rfl rfl 2 rfl mfl_X3_18 rfl rfl dX3_handOn_132 ?_
              refine lv_pc (q := 135) rfl ?_
              refine lv_iload_n hx hb dX3_handOn_135 rfl (lv_at hl 1 rfl) ?_
              refine uIald (i := (nI j8)) (j := j8) B hP 2 rfl (nI_in (by omega) (by omega)) (nI_clamp (by omega)) dX3_handOn_136 ?_
              refine lv_fixi (y := (nI a23)) ea23 ?_
              refine uSi (As := [.int (nI a23)]) (rest := [.ref a_N, .int (y11 ||| r27)]) (wr := [(a_N_sorts, .inl (K 0, 60, .inl f_N_sorts)), (a_N_firsts, .inl (K 0, 60, .inl f_N_firsts)), (a_N_seconds, .inl (K 0, 60, .inl f_N_seconds)), (a_N_struck, .inl (K 1, 60, .inl f_N_struck)), (a_N, .inr (3, [.ref a_N_sorts, .ref a_N_firsts, .ref a_N_seconds, .ref a_N_struck, .ref a_N_least, .ref a_N_greatest, .int (nI v_N_size), .int v_N_drawnFor, .int v_N_agree, .int (nI v_N_quietUpTo)])), (a_N_least, .inl (K 0, 24, .inl u28)), (a_N_greatest, .inl (K 0, 24, .inl u29))]) [] B hl.1 hP hD hS [] [0, 1, 2, 3, 4, 5, 6] rfl rfl rfl (wX3_begin l D K _ a23 (by omega)) wd_X3_begin mml_X3_66 rfl rfl ⟨Nat.le_of_ble_eq_true rfl, Nat.le_of_ble_eq_true rfl⟩ (Nat.le_of_ble_eq_true rfl) ⟨Nat.le_of_ble_eq_true rfl, Nat.le_of_ble_eq_true rfl⟩ dX3_handOn_137 (fun r31 u H locs hw hP hD hS => ?_)
              try dsimp only at hw
              have w32 := hw
              have hP : va_P D vwCl [(a_N_sorts, .inl (K 0, 60, .inl f_N_sorts)), (a_N_firsts, .inl (K 0, 60, .inl f_N_firsts)), (a_N_seconds, .inl (K 0, 60, .inl f_N_seconds)), (a_N_struck, .inl (K 1, 60, .inl f_N_struck)), (a_N, .inr (3, [.ref a_N_sorts, .ref a_N_firsts, .ref a_N_seconds, .ref a_N_struck, .ref a_N_least, .ref a_N_greatest, .int (nI v_N_size), .int v_N_drawnFor, .int v_N_agree, .int (nI v_N_quietUpTo)])), (a_N_least, .inl (K 0, 24, .inl u28)), (a_N_greatest, .inl (K 0, 24, .inl u29))] H := hP
              have hD := uDPJ hP hD
              obtain ⟨a33, ha33, ea33⟩ := w32
              refine lv_fixi (y := (nI a33)) ea33 ?_
              refine lv_aload_n hx hb dX3_handOn_140 rfl (lv_at hl 2 rfl) ?_
              refine uGet (ci := 3) (C := RX3) (T := TX3) (N := 10) (v := .ref a_N_firsts) B inlX3 hP 4 rfl rfl 1 rfl mfl_X3_15 rfl rfl dX3_handOn_141 ?_
              refine lv_iload_n hx hb dX3_handOn_144 rfl (lv_at hl 1 rfl) ?_
              refine lv_pc (q := 145) rfl ?_
              refine uIald (i := (nI j8)) (j := j8) B hP 1 rfl (nI_in (by omega) (by omega)) (nI_clamp (by omega)) dX3_handOn_145 ?_
              refine lv_fixi (y := (nI a19)) ea19 ?_
              refine uSi (As := [.int (nI a19)]) (rest := [.int (nI a33), .ref a_N, .int (y11 ||| r27)]) (wr := [(a_N_sorts, .inl (K 0, 60, .inl f_N_sorts)), (a_N_firsts, .inl (K 0, 60, .inl f_N_firsts)), (a_N_seconds, .inl (K 0, 60, .inl f_N_seconds)), (a_N_struck, .inl (K 1, 60, .inl f_N_struck)), (a_N, .inr (3, [.ref a_N_sorts, .ref a_N_firsts, .ref a_N_seconds, .ref a_N_struck, .ref a_N_least, .ref a_N_greatest, .int (nI v_N_size), .int v_N_drawnFor, .int v_N_agree, .int (nI v_N_quietUpTo)])), (a_N_least, .inl (K 0, 24, .inl u28)), (a_N_greatest, .inl (K 0, 24, .inl u29))]) [] B hl.1 hP hD hS [] [0, 1, 2, 3, 4, 5, 6] rfl rfl rfl (wX3_end l D K _ a19 (by omega)) wd_X3_end mml_X3_74 rfl rfl ⟨Nat.le_of_ble_eq_true rfl, Nat.le_of_ble_eq_true rfl⟩ (Nat.le_of_ble_eq_true rfl) ⟨Nat.le_of_ble_eq_true rfl, Nat.le_of_ble_eq_true rfl⟩ dX3_handOn_146 (fun r34 u H locs hw hP hD hS => ?_)
              try dsimp only at hw
              have w35 := hw
              have hP : va_P D vwCl [(a_N_sorts, .inl (K 0, 60, .inl f_N_sorts)), (a_N_firsts, .inl (K 0, 60, .inl f_N_firsts)), (a_N_seconds, .inl (K 0, 60, .inl f_N_seconds)), (a_N_struck, .inl (K 1, 60, .inl f_N_struck)), (a_N, .inr (3, [.ref a_N_sorts, .ref a_N_firsts, .ref a_N_seconds, .ref a_N_struck, .ref a_N_least, .ref a_N_greatest, .int (nI v_N_size), .int v_N_drawnFor, .int v_N_agree, .int (nI v_N_quietUpTo)])), (a_N_least, .inl (K 0, 24, .inl u28)), (a_N_greatest, .inl (K 0, 24, .inl u29))] H := hP
              have hD := uDPJ hP hD
              obtain ⟨a36, ha36, ea36⟩ := w35
              refine lv_fixi (y := (nI a36)) ea36 ?_
              refine uViJ (As := [.int (nI a33), .int (nI a36)]) (rest := [.int (y11 ||| r27)]) (wr := [(a_N_sorts, .inl (K 0, 60, .inl f_N_sorts)), (a_N_firsts, .inl (K 0, 60, .inl f_N_firsts)), (a_N_seconds, .inl (K 0, 60, .inl f_N_seconds)), (a_N_struck, .inl (K 1, 60, .inl f_N_struck))]) (wX3_inOrder l D K _ a_N v_N_size v_N_drawnFor v_N_agree v_N_quietUpTo a_N_least u28 a_N_greatest u29 a_N_sorts a_N_firsts a_N_seconds a_N_struck a33 a36 (by omega) hv_N_agree (by omega) (by omega) (by omega)) B hl.1 hP hD hS [4, 5, 6] [0, 1, 2, 3] rfl rfl rfl wd_X3_inOrder mml_X3_89 rfl rfl rfl rfl ⟨Nat.le_of_ble_eq_true rfl, Nat.le_of_ble_eq_true rfl⟩ (Nat.le_of_ble_eq_true rfl) ⟨Nat.le_of_ble_eq_true rfl, Nat.le_of_ble_eq_true rfl⟩ dX3_handOn_149 (fun r37 u H locs hw hP hD hS => ?_)
              obtain ⟨u38, u39⟩ := u
              try dsimp only at hw
              have w40 := hw
              have hP : va_P D vwCl [(a_N_sorts, .inl (K 0, 60, .inl f_N_sorts)), (a_N_firsts, .inl (K 0, 60, .inl f_N_firsts)), (a_N_seconds, .inl (K 0, 60, .inl f_N_seconds)), (a_N_struck, .inl (K 1, 60, .inl f_N_struck)), (a_N, .inr (3, [.ref a_N_sorts, .ref a_N_firsts, .ref a_N_seconds, .ref a_N_struck, .ref a_N_least, .ref a_N_greatest, .int (nI v_N_size), .int v_N_drawnFor, .int v_N_agree, .int (nI v_N_quietUpTo)])), (a_N_least, .inl (K 0, 24, .inl u38)), (a_N_greatest, .inl (K 0, 24, .inl u39))] H := hP
              have hD := uDPJ hP hD
              refine lv_ior hx hb dX3_handOn_152 ?_
              refine lv_istore_n (lv' := [(2, .int ((y11 ||| r27) ||| r37)), (3, .int (nI j8)), (0, .ref a_N), (1, .int (nI x0))]) hx hb dX3_handOn_153 rfl hl (by decide) rfl (fun ls hl => ?_)
              refine lv_iinc (v := nI (j8 + 1)) (lv' := [(3, .int (nI (j8 + 1))), (2, .int ((y11 ||| r27) ||| r37)), (0, .ref a_N), (1, .int (nI x0))]) hx hb dX3_handOn_154 hl (k := 1) rfl (nI_1 _) (by decide) rfl (fun ls hl => ?_)
              refine lv_pc (q := 157) rfl ?_
              refine lv_goto (tgt := 33) hx hb dX3_handOn_157 (by decide) ?_
              refine lv_pc (q := 33) rfl ?_
              refine W.widen (k := 0) (n := 0) (Nat.le_of_ble_eq_true rfl) (Nat.le_of_ble_eq_true rfl) ?_
              exact ih33 (j8 + 1) u38 u39 ((y11 ||| r27) ||| r37) (by omega) (uBior (uBior hy11 w30) w40) (by omega) _ _ _ (uSub hP [4, 0, 1, 2, 3, 5, 6] rfl) (hD.sub [4, 0, 1, 2, 3, 5, 6] rfl rfl) hS (lv_sub hl [0, 1, 2, 3] rfl)
            have k_17 : a16 = 2 := (nI_eq (a := a16) (b := 2) (by omega) (by omega)).mp c17
            refine lv_pc (q := 57) rfl ?_
            refine lv_iload_n hx hb dX3_handOn_57 rfl (lv_at hl 1 rfl) ?_
            refine lv_aload_n hx hb dX3_handOn_58 rfl (lv_at hl 2 rfl) ?_
            refine lv_aload_n hx hb dX3_handOn_59 rfl (lv_at hl 2 rfl) ?_
            refine uGet (ci := 3) (C := RX3) (T := TX3) (N := 10) (v := .ref a_N_seconds) B inlX3 hP 0 rfl rfl 2 rfl mfl_X3_18 rfl rfl dX3_handOn_60 ?_
            refine lv_iload_n hx hb dX3_handOn_63 rfl (lv_at hl 0 rfl) ?_
            refine uIald (i := (nI j8)) (j := j8) B hP 3 rfl (nI_in (by omega) (by omega)) (nI_clamp (by omega)) dX3_handOn_64 ?_
            obtain ⟨a41, ha41, ea41⟩ := uRnat r_N_seconds j8 (by decide)
            simp only [Int32.reduceToInt] at ha41
            refine lv_fixi (y := (nI a41)) ea41 ?_
            have na41 := uNtG i_uNt j8 ea16 ea41 (by omega) (by omega)
            refine lv_pc (q := 65) rfl ?_
            refine uSi (As := [.int (nI a41)]) (rest := [.ref a_N, .int y11]) (wr := [(a_N, .inr (3, [.ref a_N_sorts, .ref a_N_firsts, .ref a_N_seconds, .ref a_N_struck, .ref a_N_least, .ref a_N_greatest, .int (nI v_N_size), .int v_N_drawnFor, .int v_N_agree, .int (nI v_N_quietUpTo)])), (a_N_sorts, .inl (K 0, 60, .inl f_N_sorts)), (a_N_firsts, .inl (K 0, 60, .inl f_N_firsts)), (a_N_seconds, .inl (K 0, 60, .inl f_N_seconds)), (a_N_struck, .inl (K 1, 60, .inl f_N_struck)), (a_N_least, .inl (K 0, 24, .inl f9)), (a_N_greatest, .inl (K 0, 24, .inl f10))]) [] B hl.1 hP hD hS [] [0, 1, 2, 3, 4, 5, 6] rfl rfl rfl (wX3_end l D K _ a41 (by omega)) wd_X3_end mml_X3_74 rfl rfl ⟨Nat.le_of_ble_eq_true rfl, Nat.le_of_ble_eq_true rfl⟩ (Nat.le_of_ble_eq_true rfl) ⟨Nat.le_of_ble_eq_true rfl, Nat.le_of_ble_eq_true rfl⟩ dX3_handOn_65 (fun r42 u H locs hw hP hD hS => ?_)
            try dsimp only at hw
            have w43 := hw
            have hP : va_P D vwCl [(a_N, .inr (3, [.ref a_N_sorts, .ref a_N_firsts, .ref a_N_seconds, .ref a_N_struck, .ref a_N_least, .ref a_N_greatest, .int (nI v_N_size), .int v_N_drawnFor, .int v_N_agree, .int (nI v_N_quietUpTo)])), (a_N_sorts, .inl (K 0, 60, .inl f_N_sorts)), (a_N_firsts, .inl (K 0, 60, .inl f_N_firsts)), (a_N_seconds, .inl (K 0, 60, .inl f_N_seconds)), (a_N_struck, .inl (K 1, 60, .inl f_N_struck)), (a_N_least, .inl (K 0, 24, .inl f9)), (a_N_greatest, .inl (K 0, 24, .inl f10))] H := hP
            have hD := uDPJ hP hD
            obtain ⟨a44, ha44, ea44⟩ := w43
            refine lv_fixi (y := (nI a44)) ea44 ?_
            refine lv_aload_n hx hb dX3_handOn_68 rfl (lv_at hl 2 rfl) ?_
            refine uGet (ci := 3) (C := RX3) (T := TX3) (N := 10) (v := .ref a_N_firsts) B inlX3 hP 0 rfl rfl 1 rfl mfl_X3_15 rfl rfl dX3_handOn_69 ?_
            refine lv_iload_n hx hb dX3_handOn_72 rfl (lv_at hl 0 rfl) ?_
            refine uIald (i := (nI j8)) (j := j8) B hP 2 rfl (nI_in (by omega) (by omega)) (nI_clamp (by omega)) dX3_handOn_73 ?_
            obtain ⟨a45, ha45, ea45⟩ := uRnat r_N_firsts j8 (by decide)
            simp only [Int32.reduceToInt] at ha45
            refine lv_fixi (y := (nI a45)) ea45 ?_
            have na45 := uNtF i_uNt j8 ea16 ea45 (by omega) (by omega)
            refine uSi (As := [.int (nI a45)]) (rest := [.int (nI a44), .ref a_N, .int y11]) (wr := [(a_N, .inr (3, [.ref a_N_sorts, .ref a_N_firsts, .ref a_N_seconds, .ref a_N_struck, .ref a_N_least, .ref a_N_greatest, .int (nI v_N_size), .int v_N_drawnFor, .int v_N_agree, .int (nI v_N_quietUpTo)])), (a_N_sorts, .inl (K 0, 60, .inl f_N_sorts)), (a_N_firsts, .inl (K 0, 60, .inl f_N_firsts)), (a_N_seconds, .inl (K 0, 60, .inl f_N_seconds)), (a_N_struck, .inl (K 1, 60, .inl f_N_struck)), (a_N_least, .inl (K 0, 24, .inl f9)), (a_N_greatest, .inl (K 0, 24, .inl f10))]) [] B hl.1 hP hD hS [] [0, 1, 2, 3, 4, 5, 6] rfl rfl rfl (wX3_begin l D K _ a45 (by omega)) wd_X3_begin mml_X3_66 rfl rfl ⟨Nat.le_of_ble_eq_true rfl, Nat.le_of_ble_eq_true rfl⟩ (Nat.le_of_ble_eq_true rfl) ⟨Nat.le_of_ble_eq_true rfl, Nat.le_of_ble_eq_true rfl⟩ dX3_handOn_74 (fun r46 u H locs hw hP hD hS => ?_)
            try dsimp only at hw
            have w47 := hw
            have hP : va_P D vwCl [(a_N, .inr (3, [.ref a_N_sorts, .ref a_N_firsts, .ref a_N_seconds, .ref a_N_struck, .ref a_N_least, .ref a_N_greatest, .int (nI v_N_size), .int v_N_drawnFor, .int v_N_agree, .int (nI v_N_quietUpTo)])), (a_N_sorts, .inl (K 0, 60, .inl f_N_sorts)), (a_N_firsts, .inl (K 0, 60, .inl f_N_firsts)), (a_N_seconds, .inl (K 0, 60, .inl f_N_seconds)), (a_N_struck, .inl (K 1, 60, .inl f_N_struck)), (a_N_least, .inl (K 0, 24, .inl f9)), (a_N_greatest, .inl (K 0, 24, .inl f10))] H := hP
            have hD := uDPJ hP hD
            obtain ⟨a48, ha48, ea48⟩ := w47
            refine lv_fixi (y := (nI a48)) ea48 ?_
            refine lv_pc (q := 77) rfl ?_
            refine uViJ (As := [.int (nI a44), .int (nI a48)]) (rest := [.int y11]) (wr := [(a_N_sorts, .inl (K 0, 60, .inl f_N_sorts)), (a_N_firsts, .inl (K 0, 60, .inl f_N_firsts)), (a_N_seconds, .inl (K 0, 60, .inl f_N_seconds)), (a_N_struck, .inl (K 1, 60, .inl f_N_struck))]) (wX3_inOrder l D K _ a_N v_N_size v_N_drawnFor v_N_agree v_N_quietUpTo a_N_least f9 a_N_greatest f10 a_N_sorts a_N_firsts a_N_seconds a_N_struck a44 a48 (by omega) hv_N_agree (by omega) (by omega) (by omega)) B hl.1 hP hD hS [0, 5, 6] [1, 2, 3, 4] rfl rfl rfl wd_X3_inOrder mml_X3_89 rfl rfl rfl rfl ⟨Nat.le_of_ble_eq_true rfl, Nat.le_of_ble_eq_true rfl⟩ (Nat.le_of_ble_eq_true rfl) ⟨Nat.le_of_ble_eq_true rfl, Nat.le_of_ble_eq_true rfl⟩ dX3_handOn_77 (fun r49 u H locs hw hP hD hS => ?_)
            obtain ⟨u50, u51⟩ := u
            try dsimp only at hw
            have w52 := hw
            have hP : va_P D vwCl [(a_N_sorts, .inl (K 0, 60, .inl f_N_sorts)), (a_N_firsts, .inl (K 0, 60, .inl f_N_firsts)), (a_N_seconds, .inl (K 0, 60, .inl f_N_seconds)), (a_N_struck, .inl (K 1, 60, .inl f_N_struck)), (a_N, .inr (3, [.ref a_N_sorts, .ref a_N_firsts, .ref a_N_seconds, .ref a_N_struck, .ref a_N_least, .ref a_N_greatest, .int (nI v_N_size), .int v_N_drawnFor, .int v_N_agree, .int (nI v_N_quietUpTo)])), (a_N_least, .inl (K 0, 24, .inl u50)), (a_N_greatest, .inl (K 0, 24, .inl u51))] H := hP
            have hD := uDPJ hP hD
            refine lv_ior hx hb dX3_handOn_80 ?_
            refine lv_istore_n (lv' := [(2, .int (y11 ||| r49)), (3, .int (nI j8)), (0, .ref a_N), (1, .int (nI x0))]) hx hb dX3_handOn_81 rfl hl (by decide) rfl (fun ls hl => ?_)
            refine lv_goto (tgt := 154) hx hb dX3_handOn_82 (by decide) ?_
            refine lv_iinc (v := nI (j8 + 1)) (lv' := [(3, .int (nI (j8 + 1))), (2, .int (y11 ||| r49)), (0, .ref a_N), (1, .int (nI x0))]) hx hb dX3_handOn_154 hl (k := 1) rfl (nI_1 _) (by decide) rfl (fun ls hl => ?_)
            refine lv_goto (tgt := 33) hx hb dX3_handOn_157 (by decide) ?_
            refine lv_pc (q := 33) rfl ?_
            refine W.widen (k := 0) (n := 0) (Nat.le_of_ble_eq_true rfl) (Nat.le_of_ble_eq_true rfl) ?_
            exact ih33 (j8 + 1) u50 u51 (y11 ||| r49) (by omega) (uBior hy11 w52) (by omega) _ _ _ (uSub hP [4, 0, 1, 2, 3, 5, 6] rfl) (hD.sub [4, 0, 1, 2, 3, 5, 6] rfl rfl) hS (lv_sub hl [0, 1, 2, 3] rfl)
        refine lv_pc (q := 33) rfl ?_
        refine W.widen (k := 0) (n := 0) (Nat.le_of_ble_eq_true rfl) (Nat.le_of_ble_eq_true rfl) ?_
        exact L13 ((x0 - 0) + 1) 0 f2 f3 y4 (by omega) hy4 (Nat.lt_succ_self _) _ _ _ hP hD hS hl
      have k_7 : ¬ 12 ≤ j1 := fun h9 => c7 ((nI_leI (a := 12) (b := j1) (by omega) (by omega)).mpr h9)
      refine lv_iload_n hx hb dX3_handOn_10 rfl (lv_at hl 1 rfl) ?_
      refine lv_aload_n hx hb dX3_handOn_11 rfl (lv_at hl 2 rfl) ?_
      refine lv_iload_n hx hb dX3_handOn_12 rfl (lv_at hl 0 rfl) ?_
      refine uSi (As := [.int (nI j1)]) (rest := [.ref a_N, .int y4]) (wr := [(a_N, .inr (3, [.ref a_N_sorts, .ref a_N_firsts, .ref a_N_seconds, .ref a_N_struck, .ref a_N_least, .ref a_N_greatest, .int (nI v_N_size), .int v_N_drawnFor, .int v_N_agree, .int (nI v_N_quietUpTo)])), (a_N_sorts, .inl (K 0, 60, .inl f_N_sorts)), (a_N_firsts, .inl (K 0, 60, .inl f_N_firsts)), (a_N_seconds, .inl (K 0, 60, .inl f_N_seconds)), (a_N_struck, .inl (K 1, 60, .inl f_N_struck)), (a_N_least, .inl (K 0, 24, .inl f2)), (a_N_greatest, .inl (K 0, 24, .inl f3))]) [] B hl.1 hP hD hS [] [0, 1, 2, 3, 4, 5, 6] rfl rfl rfl (wX3_begin l D K _ j1 (by omega)) wd_X3_begin mml_X3_66 rfl rfl ⟨Nat.le_of_ble_eq_true rfl, Nat.le_of_ble_eq_true rfl⟩ (Nat.le_of_ble_eq_true rfl) ⟨Nat.le_of_ble_eq_true rfl, Nat.le_of_ble_eq_true rfl⟩ dX3_handOn_13 (fun r53 u H locs hw hP hD hS => ?_)
      try dsimp only at hw
      have w54 := hw
      have hP : va_P D vwCl [(a_N, .inr (3, [.ref a_N_sorts, .ref a_N_firsts, .ref a_N_seconds, .ref a_N_struck, .ref a_N_least, .ref a_N_greatest, .int (nI v_N_size), .int v_N_drawnFor, .int v_N_agree, .int (nI v_N_quietUpTo)])), (a_N_sorts, .inl (K 0, 60, .inl f_N_sorts)), (a_N_firsts, .inl (K 0, 60, .inl f_N_firsts)), (a_N_seconds, .inl (K 0, 60, .inl f_N_seconds)), (a_N_struck, .inl (K 1, 60, .inl f_N_struck)), (a_N_least, .inl (K 0, 24, .inl f2)), (a_N_greatest, .inl (K 0, 24, .inl f3))] H := hP
      have hD := uDPJ hP hD
      obtain ⟨a55, ha55, ea55⟩ := w54
      refine lv_fixi (y := (nI a55)) ea55 ?_
      refine lv_pc (q := 16) rfl ?_
      refine lv_iload_n hx hb dX3_handOn_16 rfl (lv_at hl 0 rfl) ?_
      refine uSi (As := [.int (nI j1)]) (rest := [.int (nI a55), .ref a_N, .int y4]) (wr := [(a_N, .inr (3, [.ref a_N_sorts, .ref a_N_firsts, .ref a_N_seconds, .ref a_N_struck, .ref a_N_least, .ref a_N_greatest, .int (nI v_N_size), .int v_N_drawnFor, .int v_N_agree, .int (nI v_N_quietUpTo)])), (a_N_sorts, .inl (K 0, 60, .inl f_N_sorts)), (a_N_firsts, .inl (K 0, 60, .inl f_N_firsts)), (a_N_seconds, .inl (K 0, 60, .inl f_N_seconds)), (a_N_struck, .inl (K 1, 60, .inl f_N_struck)), (a_N_least, .inl (K 0, 24, .inl f2)), (a_N_greatest, .inl (K 0, 24, .inl f3))]) [] B hl.1 hP hD hS [] [0, 1, 2, 3, 4, 5, 6] rfl rfl rfl (wX3_end l D K _ j1 (by omega)) wd_X3_end mml_X3_74 rfl rfl ⟨Nat.le_of_ble_eq_true rfl, Nat.le_of_ble_eq_true rfl⟩ (Nat.le_of_ble_eq_true rfl) ⟨Nat.le_of_ble_eq_true rfl, Nat.le_of_ble_eq_true rfl⟩ dX3_handOn_17 (fun r56 u H locs hw hP hD hS => ?_)
      try dsimp only at hw
      have w57 := hw
      have hP : va_P D vwCl [(a_N, .inr (3, [.ref a_N_sorts, .ref a_N_firsts, .ref a_N_seconds, .ref a_N_struck, .ref a_N_least, .ref a_N_greatest, .int (nI v_N_size), .int v_N_drawnFor, .int v_N_agree, .int (nI v_N_quietUpTo)])), (a_N_sorts, .inl (K 0, 60, .inl f_N_sorts)), (a_N_firsts, .inl (K 0, 60, .inl f_N_firsts)), (a_N_seconds, .inl (K 0, 60, .inl f_N_seconds)), (a_N_struck, .inl (K 1, 60, .inl f_N_struck)), (a_N_least, .inl (K 0, 24, .inl f2)), (a_N_greatest, .inl (K 0, 24, .inl f3))] H := hP
      have hD := uDPJ hP hD
      obtain ⟨a58, ha58, ea58⟩ := w57
      refine lv_fixi (y := (nI a58)) ea58 ?_
      refine uViJ (As := [.int (nI a55), .int (nI a58)]) (rest := [.int y4]) (wr := [(a_N_sorts, .inl (K 0, 60, .inl f_N_sorts)), (a_N_firsts, .inl (K 0, 60, .inl f_N_firsts)), (a_N_seconds, .inl (K 0, 60, .inl f_N_seconds)), (a_N_struck, .inl (K 1, 60, .inl f_N_struck))]) (wX3_inOrder l D K _ a_N v_N_size v_N_drawnFor v_N_agree v_N_quietUpTo a_N_least f2 a_N_greatest f3 a_N_sorts a_N_firsts a_N_seconds a_N_struck a55 a58 (by omega) hv_N_agree (by omega) (by omega) (by omega)) B hl.1 hP hD hS [0, 5, 6] [1, 2, 3, 4] rfl rfl rfl wd_X3_inOrder mml_X3_89 rfl rfl rfl rfl ⟨Nat.le_of_ble_eq_true rfl, Nat.le_of_ble_eq_true rfl⟩ (Nat.le_of_ble_eq_true rfl) ⟨Nat.le_of_ble_eq_true rfl, Nat.le_of_ble_eq_true rfl⟩ dX3_handOn_20 (fun r59 u H locs hw hP hD hS => ?_)
      obtain ⟨u60, u61⟩ := u
      try dsimp only at hw
      have w62 := hw
      have hP : va_P D vwCl [(a_N_sorts, .inl (K 0, 60, .inl f_N_sorts)), (a_N_firsts, .inl (K 0, 60, .inl f_N_firsts)), (a_N_seconds, .inl (K 0, 60, .inl f_N_seconds)), (a_N_struck, .inl (K 1, 60, .inl f_N_struck)), (a_N, .inr (3, [.ref a_N_sorts, .ref a_N_firsts, .ref a_N_seconds, .ref a_N_struck, .ref a_N_least, .ref a_N_greatest, .int (nI v_N_size), .int v_N_drawnFor, .int v_N_agree, .int (nI v_N_quietUpTo)])), (a_N_least, .inl (K 0, 24, .inl u60)), (a_N_greatest, .inl (K 0, 24, .inl u61))] H := hP
      have hD := uDPJ hP hD
      refine lv_ior hx hb dX3_handOn_23 ?_
      refine lv_istore_n (lv' := [(2, .int (y4 ||| r59)), (3, .int (nI j1)), (0, .ref a_N), (1, .int (nI x0))]) hx hb dX3_handOn_24 rfl hl (by decide) rfl (fun ls hl => ?_)
      refine lv_iinc (v := nI (j1 + 1)) (lv' := [(3, .int (nI (j1 + 1))), (2, .int (y4 ||| r59)), (0, .ref a_N), (1, .int (nI x0))]) hx hb dX3_handOn_25 hl (k := 1) rfl (nI_1 _) (by decide) rfl (fun ls hl => ?_)
      refine lv_pc (q := 28) rfl ?_
      refine lv_goto (tgt := 4) hx hb dX3_handOn_28 (by decide) ?_
      refine lv_pc (q := 4) rfl ?_
      refine W.widen (k := 0) (n := 0) (Nat.le_of_ble_eq_true rfl) (Nat.le_of_ble_eq_true rfl) ?_
      exact ih4 (j1 + 1) u60 u61 (y4 ||| r59) (by omega) (uBior hy4 w62) (by omega) _ _ _ (uSub hP [4, 0, 1, 2, 3, 5, 6] rfl) (hD.sub [4, 0, 1, 2, 3, 5, 6] rfl rfl) hS (lv_sub hl [0, 1, 2, 3] rfl)
  refine lv_pc (q := 4) rfl ?_
  refine W.widen (k := 0) (n := 0) (Nat.le_of_ble_eq_true rfl) (Nat.le_of_ble_eq_true rfl) ?_
  exact L6 ((12 - 0) + 1) 0 f_N_least f_N_greatest 0 (by omega) (Or.inl rfl) (Nat.lt_succ_self _) _ _ _ hP hD hS hl
def qwX3_boundsMeet (a_N : Nat) (v_N_size : Nat) (v_N_drawnFor : Int32) (v_N_agree : Int32) (v_N_quietUpTo : Nat) (a_N_least : Nat) (f_N_least : Nat → Int32) (a_N_greatest : Nat) (f_N_greatest : Nat → Int32) (a_N_sorts : Nat) (a_N_firsts : Nat) (a_N_seconds : Nat) (a_N_struck : Nat) : Int32 → (Unit) → Prop := (fun (r : Int32) (u : Unit) => ((r = 0) ∨ (r = 1)))
def vwX3_boundsMeet (K : Nat → ClassId) (a_N : Nat) (v_N_size : Nat) (v_N_drawnFor : Int32) (v_N_agree : Int32) (v_N_quietUpTo : Nat) (a_N_least : Nat) (f_N_least : Nat → Int32) (a_N_greatest : Nat) (f_N_greatest : Nat → Int32) (a_N_sorts : Nat) (a_N_firsts : Nat) (a_N_seconds : Nat) (a_N_struck : Nat) : (Unit) → va_W := (fun (u : Unit) => [(a_N, .inr (3, [.ref a_N_sorts, .ref a_N_firsts, .ref a_N_seconds, .ref a_N_struck, .ref a_N_least, .ref a_N_greatest, .int (nI v_N_size), .int v_N_drawnFor, .int v_N_agree, .int (nI v_N_quietUpTo)])), (a_N_least, .inl (K 0, 24, .inl f_N_least)), (a_N_greatest, .inl (K 0, 24, .inl f_N_greatest))])
set_option maxHeartbeats 4000000 in
set_option maxRecDepth 100000 in
theorem wX3_boundsMeet (l : Launch) (D : va_G) (K : Nat → ClassId) (sz : Nat) (a_N : Nat) (v_N_size : Nat) (v_N_drawnFor : Int32) (v_N_agree : Int32) (v_N_quietUpTo : Nat) (a_N_least : Nat) (f_N_least : Nat → Int32) (a_N_greatest : Nat) (f_N_greatest : Nat → Int32) (a_N_sorts : Nat) (a_N_firsts : Nat) (a_N_seconds : Nat) (a_N_struck : Nat) (hv_N_size : v_N_size ≤ 60) (hv_N_agree : v_N_agree = 0 ∨ v_N_agree = 1) (hv_N_quietUpTo : v_N_quietUpTo ≤ 60) : uMi l yX3_boundsMeet cX3_boundsMeet 2 (some .boolean) { frames := 0, cells := 0, slots := 0, locals := 0 } [.ref a_N] D K [(a_N, .inr (3, [.ref a_N_sorts, .ref a_N_firsts, .ref a_N_seconds, .ref a_N_struck, .ref a_N_least, .ref a_N_greatest, .int (nI v_N_size), .int v_N_drawnFor, .int v_N_agree, .int (nI v_N_quietUpTo)])), (a_N_least, .inl (K 0, 24, .inl f_N_least)), (a_N_greatest, .inl (K 0, 24, .inl f_N_greatest))] sz (qwX3_boundsMeet a_N v_N_size v_N_drawnFor v_N_agree v_N_quietUpTo a_N_least f_N_least a_N_greatest f_N_greatest a_N_sorts a_N_firsts a_N_seconds a_N_struck) (vwX3_boundsMeet K a_N v_N_size v_N_drawnFor v_N_agree v_N_quietUpTo a_N_least f_N_least a_N_greatest f_N_greatest a_N_sorts a_N_firsts a_N_seconds a_N_struck) := by
  refine uMet (Qc := uQi D (qwX3_boundsMeet a_N v_N_size v_N_drawnFor v_N_agree v_N_quietUpTo a_N_least f_N_least a_N_greatest f_N_greatest a_N_sorts a_N_firsts a_N_seconds a_N_struck) (vwX3_boundsMeet K a_N v_N_size v_N_drawnFor v_N_agree v_N_quietUpTo a_N_least f_N_least a_N_greatest f_N_greatest a_N_sorts a_N_firsts a_N_seconds a_N_struck)) (ret := (some .boolean)) (by decide) (Nat.le_of_ble_eq_true rfl) ?_
  intro p e s m below meth c A ls hAe hsz B hP hD hS hl
  have hx := B.1
  have hb := B.2.1
  have hl : lv_has ls 2 [(0, .ref a_N)] := hl
  refine lv_iconst (v := 0) hx hb dX3_boundsMeet_0 (by decide) ?_
  refine lv_istore_n (lv' := [(1, .int 0), (0, .ref a_N)]) hx hb dX3_boundsMeet_1 rfl hl (by decide) rfl (fun ls hl => ?_)
  have L3 : ∀ (n9 : Nat) (j1 : Nat), (j1 ≤ 24) → 24 - j1 < n9 → ∀ (H : Heap) (locs : List Loc) (ls : Array Slot), va_P D vwCl [(a_N, .inr (3, [.ref a_N_sorts, .ref a_N_firsts, .ref a_N_seconds, .ref a_N_struck, .ref a_N_least, .ref a_N_greatest, .int (nI v_N_size), .int v_N_drawnFor, .int v_N_agree, .int (nI v_N_quietUpTo)])), (a_N_least, .inl (K 0, 24, .inl f_N_least)), (a_N_greatest, .inl (K 0, 24, .inl f_N_greatest))] H → va_D A [(a_N, .inr (3, [.ref a_N_sorts, .ref a_N_firsts, .ref a_N_seconds, .ref a_N_struck, .ref a_N_least, .ref a_N_greatest, .int (nI v_N_size), .int v_N_drawnFor, .int v_N_agree, .int (nI v_N_quietUpTo)])), (a_N_least, .inl (K 0, 24, .inl f_N_least)), (a_N_greatest, .inl (K 0, 24, .inl f_N_greatest))] → va_S A s.heap H locs → lv_has ls 2 [(1, .int (nI j1)), (0, .ref a_N)] → W p l e { frames := 0, cells := 0, slots := 0, locals := 0 } s m ([.ref a_N] : List Value).toArray below meth c H locs 0 0 (MQ below (uQi D (qwX3_boundsMeet a_N v_N_size v_N_drawnFor v_N_agree v_N_quietUpTo a_N_least f_N_least a_N_greatest f_N_greatest a_N_sorts a_N_firsts a_N_seconds a_N_struck) (vwX3_boundsMeet K a_N v_N_size v_N_drawnFor v_N_agree v_N_quietUpTo a_N_least f_N_least a_N_greatest f_N_greatest a_N_sorts a_N_firsts a_N_seconds a_N_struck) A) ([.ref a_N] : List Value).toArray s 0 0 A) (F0 m 2 ls []) := by
    intro n9
    induction n9 with
    | zero => intros; exact absurd ‹_ < 0› (Nat.not_lt_zero _)
    | succ n2_ ih2 =>
      intro j1 hj1 hm2 H locs ls hP hD hS hl
      refine lv_iload_n hx hb dX3_boundsMeet_2 rfl (lv_at hl 0 rfl) ?_
      refine lv_bipush (v := 24) hx hb dX3_boundsMeet_3 (by decide) ?_
      refine lv_icmp_ge (tgt := 31) hx hb dX3_boundsMeet_5 (by decide) (fun c4 => ?_) (fun c4 => ?_)
      · have k_4 : 24 ≤ j1 := (nI_leI (a := 24) (b := j1) (by omega) (by omega)).mp c4
        refine lv_pc (q := 31) rfl ?_
        refine lv_iconst (v := 1) hx hb dX3_boundsMeet_31 (by decide) ?_
        exact uRz () B rfl (Or.inr rfl) (uSub hP [0, 1, 2] rfl) (hD.sub [0, 1, 2] rfl rfl) hS dX3_boundsMeet_32
      have k_4 : ¬ 24 ≤ j1 := fun h9 => c4 ((nI_leI (a := 24) (b := j1) (by omega) (by omega)).mpr h9)
      refine lv_pc (q := 8) rfl ?_
      refine lv_aload_n hx hb dX3_boundsMeet_8 rfl (lv_at hl 1 rfl) ?_
      refine uGet (ci := 3) (C := RX3) (T := TX3) (N := 10) (v := .ref a_N_least) B inlX3 hP 0 rfl rfl 4 rfl mfl_X3_25 rfl rfl dX3_boundsMeet_9 ?_
      refine lv_iload_n hx hb dX3_boundsMeet_12 rfl (lv_at hl 0 rfl) ?_
      refine uIald (i := (nI j1)) (j := j1) B hP 1 rfl (nI_in (by omega) (by omega)) (nI_clamp (by omega)) dX3_boundsMeet_13 ?_
      refine lv_aload_n hx hb dX3_boundsMeet_14 rfl (lv_at hl 1 rfl) ?_
      refine uGet (ci := 3) (C := RX3) (T := TX3) (N := 10) (v := .ref a_N_greatest) B inlX3 hP 0 rfl rfl 5 rfl mfl_X3_28 rfl rfl dX3_boundsMeet_15 ?_
      refine lv_pc (q := 18) rfl ?_
      refine lv_iload_n hx hb dX3_boundsMeet_18 rfl (lv_at hl 0 rfl) ?_
      refine uIald (i := (nI j1)) (j := j1) B hP 2 rfl (nI_in (by omega) (by omega)) (nI_clamp (by omega)) dX3_boundsMeet_19 ?_
      refine lv_icmp_le (tgt := 25) hx hb dX3_boundsMeet_20 (by decide) (fun c5 => ?_) (fun c5 => ?_)
      · refine lv_iinc (v := nI (j1 + 1)) (lv' := [(1, .int (nI (j1 + 1))), (0, .ref a_N)]) hx hb dX3_boundsMeet_25 hl (k := 0) rfl (nI_1 _) (by decide) rfl (fun ls hl => ?_)
        refine lv_goto (tgt := 2) hx hb dX3_boundsMeet_28 (by decide) ?_
        refine lv_pc (q := 2) rfl ?_
        refine W.widen (k := 0) (n := 0) (Nat.le_of_ble_eq_true rfl) (Nat.le_of_ble_eq_true rfl) ?_
        exact ih2 (j1 + 1) (by omega) (by omega) _ _ _ (uSub hP [0, 1, 2] rfl) (hD.sub [0, 1, 2] rfl rfl) hS (lv_sub hl [0, 1] rfl)
      refine lv_iconst (v := 0) hx hb dX3_boundsMeet_23 (by decide) ?_
      exact uRz () B rfl (Or.inl rfl) (uSub hP [0, 1, 2] rfl) (hD.sub [0, 1, 2] rfl rfl) hS dX3_boundsMeet_24
  refine lv_pc (q := 2) rfl ?_
  refine W.widen (k := 0) (n := 0) (Nat.le_of_ble_eq_true rfl) (Nat.le_of_ble_eq_true rfl) ?_
  exact L3 ((24 - 0) + 1) 0 (by omega) (Nat.lt_succ_self _) _ _ _ hP hD hS hl
def qwJ7_fill_53178_vF24 (a_F24 : Nat) (f_F24 : Nat → Int32) (x1 : Int32) : ((Nat → Int32)) → Prop := (fun (u : (Nat → Int32)) => True)
def vwJ7_fill_53178_vF24 (K : Nat → ClassId) (a_F24 : Nat) (f_F24 : Nat → Int32) (x1 : Int32) : ((Nat → Int32)) → va_W := (fun (u : (Nat → Int32)) => [(a_F24, .inl (K 0, 24, .inl u))])
set_option maxHeartbeats 4000000 in
set_option maxRecDepth 100000 in
theorem wJ7_fill_53178_vF24 (l : Launch) (D : va_G) (K : Nat → ClassId) (sz : Nat) (a_F24 : Nat) (f_F24 : Nat → Int32) (x1 : Int32) : uMv l yJ7_fill_53178 cJ7_fill_53178 4 { frames := 0, cells := 0, slots := 0, locals := 0 } [.ref a_F24, .int x1] D K [(a_F24, .inl (K 0, 24, .inl f_F24))] sz (qwJ7_fill_53178_vF24 a_F24 f_F24 x1) (vwJ7_fill_53178_vF24 K a_F24 f_F24 x1) := by
  refine uMet (Qc := uQv D (qwJ7_fill_53178_vF24 a_F24 f_F24 x1) (vwJ7_fill_53178_vF24 K a_F24 f_F24 x1)) (ret := none) (by decide) (Nat.le_of_ble_eq_true rfl) ?_
  intro p e s m below meth c A ls hAe hsz B hP hD hS hl
  have hx := B.1
  have hb := B.2.1
  have hl : lv_has ls 4 [(0, .ref a_F24), (1, .int x1)] := hl
  refine lv_iconst (v := 0) hx hb dJ7_fill_53178_0 (by decide) ?_
  refine lv_istore_n (lv' := [(2, .int 0), (0, .ref a_F24), (1, .int x1)]) hx hb dJ7_fill_53178_1 rfl hl (by decide) rfl (fun ls hl => ?_)
  refine lv_aload_n hx hb dJ7_fill_53178_2 rfl (lv_at hl 1 rfl) ?_
  refine uAlen (t0 := 0) (v := 24) B hP 0 rfl rfl rfl dJ7_fill_53178_3 ?_
  refine lv_istore_n (lv' := [(3, .int 24), (2, .int 0), (0, .ref a_F24), (1, .int x1)]) hx hb dJ7_fill_53178_4 rfl hl (by decide) rfl (fun ls hl => ?_)
  have L4 : ∀ (n9 : Nat) (j1 : Nat) (f2 : Nat → Int32), (j1 ≤ 24) → 24 - j1 < n9 → ∀ (H : Heap) (locs : List Loc) (ls : Array Slot), va_P D vwCl [(a_F24, .inl (K 0, 24, .inl f2))] H → va_D A [(a_F24, .inl (K 0, 24, .inl f2))] → va_S A s.heap H locs → lv_has ls 4 [(3, .int 24), (2, .int (nI j1)), (0, .ref a_F24), (1, .int x1)] → W p l e { frames := 0, cells := 0, slots := 0, locals := 0 } s m ([.ref a_F24, .int x1] : List Value).toArray below meth c H locs 0 0 (MQ below (uQv D (qwJ7_fill_53178_vF24 a_F24 f_F24 x1) (vwJ7_fill_53178_vF24 K a_F24 f_F24 x1) A) ([.ref a_F24, .int x1] : List Value).toArray s 0 0 A) (F0 m 5 ls []) := by
    intro n9
    induction n9 with
    | zero => intros; exact absurd ‹_ < 0› (Nat.not_lt_zero _)
    | succ n5_ ih5 =>
      intro j1 f2 hj1 hm5 H locs ls hP hD hS hl
      refine lv_pc (q := 5) rfl ?_
      refine lv_iload_n hx hb dJ7_fill_53178_5 rfl (lv_at hl 1 rfl) ?_
      refine lv_iload_n hx hb dJ7_fill_53178_6 rfl (lv_at hl 0 rfl) ?_
      refine lv_icmp_ge (tgt := 20) hx hb dJ7_fill_53178_7 (by decide) (fun c5 => ?_) (fun c5 => ?_)
      · have k_5 : 24 ≤ j1 := (nI_leI (a := 24) (b := j1) (by omega) (by omega)).mp c5
        exact uRv f2 B trivial (uSub hP [0] rfl) (hD.sub [0] rfl rfl) hS dJ7_fill_53178_20
      have k_5 : ¬ 24 ≤ j1 := fun h9 => c5 ((nI_leI (a := 24) (b := j1) (by omega) (by omega)).mpr h9)
      refine lv_aload_n hx hb dJ7_fill_53178_10 rfl (lv_at hl 2 rfl) ?_
      refine lv_iload_n hx hb dJ7_fill_53178_11 rfl (lv_at hl 1 rfl) ?_
      refine lv_iload_n hx hb dJ7_fill_53178_12 rfl (lv_at hl 3 rfl) ?_
      refine lv_pc (q := 13) rfl ?_
      refine uIast (i := (nI j1)) (j := j1) (ws' := [(a_F24, .inl (K 0, 24, .inl (upd f2 j1 x1)))]) B hP hD hS 0 rfl (nI_in (by omega) (by omega)) (nI_clamp (by omega)) rfl dJ7_fill_53178_13 (fun H locs hP hD hS => ?_)
      refine lv_iinc (v := nI (j1 + 1)) (lv' := [(2, .int (nI (j1 + 1))), (3, .int 24), (0, .ref a_F24), (1, .int x1)]) hx hb dJ7_fill_53178_14 hl (k := 1) rfl (nI_1 _) (by decide) rfl (fun ls hl => ?_)
      refine lv_goto (tgt := 5) hx hb dJ7_fill_53178_17 (by decide) ?_
      refine lv_pc (q := 5) rfl ?_
      refine W.widen (k := 0) (n := 0) (Nat.le_of_ble_eq_true rfl) (Nat.le_of_ble_eq_true rfl) ?_
      exact ih5 (j1 + 1) (upd f2 j1 x1) (by omega) (by omega) _ _ _ (uSub hP [0] rfl) (hD.sub [0] rfl rfl) hS (lv_sub hl [1, 0, 2, 3] rfl)
  refine lv_pc (q := 5) rfl ?_
  refine W.widen (k := 0) (n := 0) (Nat.le_of_ble_eq_true rfl) (Nat.le_of_ble_eq_true rfl) ?_
  exact L4 ((24 - 0) + 1) 0 f_F24 (by omega) (Nat.lt_succ_self _) _ _ _ hP hD hS hl
def qwX3_draw (a_N : Nat) (v_N_size : Nat) (v_N_drawnFor : Int32) (v_N_agree : Int32) (v_N_quietUpTo : Nat) (a_N_sorts : Nat) (f_N_sorts : Nat → Int32) (a_N_firsts : Nat) (f_N_firsts : Nat → Int32) (a_N_seconds : Nat) (f_N_seconds : Nat → Int32) (a_N_struck : Nat) (f_N_struck : Nat → Int32) (a_N_least : Nat) (f_N_least : Nat → Int32) (a_N_greatest : Nat) (f_N_greatest : Nat → Int32) (x0 : Nat) : Int32 → (Int32 × Int32 × (Nat → Int32) × (Nat → Int32) × (Nat → Int32)) → Prop := (fun (r : Int32) (u : Int32 × Int32 × (Nat → Int32) × (Nat → Int32) × (Nat → Int32)) => (r = 0 ∨ r = 1) ∧ (u.2.1 = 0 ∨ u.2.1 = 1) ∧ (∀ k, u.2.2.1 k = 0 ∨ u.2.2.1 k = 1))
def vwX3_draw (K : Nat → ClassId) (a_N : Nat) (v_N_size : Nat) (v_N_drawnFor : Int32) (v_N_agree : Int32) (v_N_quietUpTo : Nat) (a_N_sorts : Nat) (f_N_sorts : Nat → Int32) (a_N_firsts : Nat) (f_N_firsts : Nat → Int32) (a_N_seconds : Nat) (f_N_seconds : Nat → Int32) (a_N_struck : Nat) (f_N_struck : Nat → Int32) (a_N_least : Nat) (f_N_least : Nat → Int32) (a_N_greatest : Nat) (f_N_greatest : Nat → Int32) (x0 : Nat) : (Int32 × Int32 × (Nat → Int32) × (Nat → Int32) × (Nat → Int32)) → va_W := (fun (u : Int32 × Int32 × (Nat → Int32) × (Nat → Int32) × (Nat → Int32)) => [(a_N, .inr (3, [.ref a_N_sorts, .ref a_N_firsts, .ref a_N_seconds, .ref a_N_struck, .ref a_N_least, .ref a_N_greatest, .int (nI v_N_size), .int u.1, .int u.2.1, .int (nI v_N_quietUpTo)])), (a_N_sorts, .inl (K 0, 60, .inl f_N_sorts)), (a_N_firsts, .inl (K 0, 60, .inl f_N_firsts)), (a_N_seconds, .inl (K 0, 60, .inl f_N_seconds)), (a_N_struck, .inl (K 1, 60, .inl (u.2.2.1))), (a_N_least, .inl (K 0, 24, .inl (u.2.2.2.1))), (a_N_greatest, .inl (K 0, 24, .inl (u.2.2.2.2)))])
set_option maxHeartbeats 4000000 in
set_option maxRecDepth 100000 in
theorem wX3_draw (l : Launch) (D : va_G) (K : Nat → ClassId) (sz : Nat) (a_N : Nat) (v_N_size : Nat) (v_N_drawnFor : Int32) (v_N_agree : Int32) (v_N_quietUpTo : Nat) (a_N_sorts : Nat) (f_N_sorts : Nat → Int32) (a_N_firsts : Nat) (f_N_firsts : Nat → Int32) (a_N_seconds : Nat) (f_N_seconds : Nat → Int32) (a_N_struck : Nat) (f_N_struck : Nat → Int32) (a_N_least : Nat) (f_N_least : Nat → Int32) (a_N_greatest : Nat) (f_N_greatest : Nat → Int32) (x0 : Nat) (hv_N_size : v_N_size ≤ 60) (hv_N_agree : v_N_agree = 0 ∨ v_N_agree = 1) (hv_N_quietUpTo : v_N_quietUpTo ≤ 60) (r_N_sorts : uRg f_N_sorts 0 6) (r_N_firsts : uRg f_N_firsts 0 59) (r_N_seconds : uRg f_N_seconds 0 500) (b_N_struck : ∀ k, f_N_struck k = 0 ∨ f_N_struck k = 1) (hx0 : x0 < 61) (i_uNt : uNt f_N_sorts f_N_firsts f_N_seconds) : uMi l yX3_draw cX3_draw 4 (some .boolean) { frames := 4, cells := 0, slots := 0, locals := 83 } [.ref a_N, .int (nI x0)] D K [(a_N, .inr (3, [.ref a_N_sorts, .ref a_N_firsts, .ref a_N_seconds, .ref a_N_struck, .ref a_N_least, .ref a_N_greatest, .int (nI v_N_size), .int v_N_drawnFor, .int v_N_agree, .int (nI v_N_quietUpTo)])), (a_N_sorts, .inl (K 0, 60, .inl f_N_sorts)), (a_N_firsts, .inl (K 0, 60, .inl f_N_firsts)), (a_N_seconds, .inl (K 0, 60, .inl f_N_seconds)), (a_N_struck, .inl (K 1, 60, .inl f_N_struck)), (a_N_least, .inl (K 0, 24, .inl f_N_least)), (a_N_greatest, .inl (K 0, 24, .inl f_N_greatest))] sz (qwX3_draw a_N v_N_size v_N_drawnFor v_N_agree v_N_quietUpTo a_N_sorts f_N_sorts a_N_firsts f_N_firsts a_N_seconds f_N_seconds a_N_struck f_N_struck a_N_least f_N_least a_N_greatest f_N_greatest x0) (vwX3_draw K a_N v_N_size v_N_drawnFor v_N_agree v_N_quietUpTo a_N_sorts f_N_sorts a_N_firsts f_N_firsts a_N_seconds f_N_seconds a_N_struck f_N_struck a_N_least f_N_least a_N_greatest f_N_greatest x0) := by
  refine uMet (Qc := uQi D (qwX3_draw a_N v_N_size v_N_drawnFor v_N_agree v_N_quietUpTo a_N_sorts f_N_sorts a_N_firsts f_N_firsts a_N_seconds f_N_seconds a_N_struck f_N_struck a_N_least f_N_least a_N_greatest f_N_greatest x0) (vwX3_draw K a_N v_N_size v_N_drawnFor v_N_agree v_N_quietUpTo a_N_sorts f_N_sorts a_N_firsts f_N_firsts a_N_seconds f_N_seconds a_N_struck f_N_struck a_N_least f_N_least a_N_greatest f_N_greatest x0)) (ret := (some .boolean)) (by decide) (Nat.le_of_ble_eq_true rfl) ?_
  intro p e s m below meth c A ls hAe hsz B hP hD hS hl
  have hx := B.1
  have hb := B.2.1
  have hl : lv_has ls 4 [(0, .ref a_N), (1, .int (nI x0))] := hl
  refine lv_iload_n hx hb dX3_draw_0 rfl (lv_at hl 1 rfl) ?_
  refine lv_aload_n hx hb dX3_draw_1 rfl (lv_at hl 0 rfl) ?_
  refine uGet (ci := 3) (C := RX3) (T := TX3) (N := 10) (v := .int v_N_drawnFor) B inlX3 hP 0 rfl rfl 7 rfl mfl_X3_35 rfl rfl dX3_draw_2 ?_
  refine lv_icmp_ne (tgt := 13) hx hb dX3_draw_5 (by decide) (fun c1 => ?_) (fun c1 => ?_)
  · refine lv_aload_n hx hb dX3_draw_13 rfl (lv_at hl 0 rfl) ?_
    refine lv_pc (q := 14) rfl ?_
    refine lv_iload_n hx hb dX3_draw_14 rfl (lv_at hl 1 rfl) ?_
    refine uPut (ci := 3) (C := RX3) (T := TX3) (N := 10) (ws' := [(a_N, .inr (3, [.ref a_N_sorts, .ref a_N_firsts, .ref a_N_seconds, .ref a_N_struck, .ref a_N_least, .ref a_N_greatest, .int (nI v_N_size), .int (nI x0), .int v_N_agree, .int (nI v_N_quietUpTo)])), (a_N_sorts, .inl (K 0, 60, .inl f_N_sorts)), (a_N_firsts, .inl (K 0, 60, .inl f_N_firsts)), (a_N_seconds, .inl (K 0, 60, .inl f_N_seconds)), (a_N_struck, .inl (K 1, 60, .inl f_N_struck)), (a_N_least, .inl (K 0, 24, .inl f_N_least)), (a_N_greatest, .inl (K 0, 24, .inl f_N_greatest))]) B inlX3 tyX3_ok nmX3 hP hD hS 0 rfl rfl 7 rfl mfl_X3_35 rfl rfl rfl rfl rfl rfl dX3_draw_15 (fun H locs hP hD hS => ?_)
    refine lv_aload_n hx hb dX3_draw_18 rfl (lv_at hl 0 rfl) ?_
    refine lv_iload_n hx hb dX3_draw_19 rfl (lv_at hl 1 rfl) ?_
    refine uVvJ (As := [.int (nI x0)]) (rest := []) (wr := [(a_N_seconds, .inl (K 0, 60, .inl f_N_seconds)), (a_N_least, .inl (K 0, 24, .inl f_N_least)), (a_N_greatest, .inl (K 0, 24, .inl f_N_greatest))]) (wX3_markStruck l D K _ a_N v_N_size (nI x0) v_N_agree v_N_quietUpTo a_N_sorts f_N_sorts a_N_firsts f_N_firsts a_N_struck f_N_struck a_N_seconds a_N_least a_N_greatest x0 (by omega) hv_N_agree (by omega) r_N_sorts r_N_firsts b_N_struck (by omega)) B hl.1 hP hD hS [0, 1, 2, 4] [3, 5, 6] rfl rfl rfl wd_X3_markStruck mml_X3_45 rfl rfl rfl rfl ⟨Nat.le_of_ble_eq_true rfl, Nat.le_of_ble_eq_true rfl⟩ (Nat.le_of_ble_eq_true rfl) ⟨Nat.le_of_ble_eq_true rfl, Nat.le_of_ble_eq_true rfl⟩ dX3_draw_20 (fun u H locs hw hP hD hS => ?_)
    obtain ⟨u3, e9⟩ : ∃ y, y = u := ⟨_, rfl⟩
    subst e9
    try dsimp only at hw
    have w4 : ∀ k, u3 k = 0 ∨ u3 k = 1 := hw
    have hP : va_P D vwCl [(a_N_seconds, .inl (K 0, 60, .inl f_N_seconds)), (a_N_least, .inl (K 0, 24, .inl f_N_least)), (a_N_greatest, .inl (K 0, 24, .inl f_N_greatest)), (a_N, .inr (3, [.ref a_N_sorts, .ref a_N_firsts, .ref a_N_seconds, .ref a_N_struck, .ref a_N_least, .ref a_N_greatest, .int (nI v_N_size), .int (nI x0), .int v_N_agree, .int (nI v_N_quietUpTo)])), (a_N_sorts, .inl (K 0, 60, .inl f_N_sorts)), (a_N_firsts, .inl (K 0, 60, .inl f_N_firsts)), (a_N_struck, .inl (K 1, 60, .inl u3))] H := hP
    have hD := uDPJ hP hD
    refine lv_aload_n hx hb dX3_draw_23 rfl (lv_at hl 0 rfl) ?_
    refine lv_pc (q := 24) rfl ?_
    refine uGet (ci := 3) (C := RX3) (T := TX3) (N := 10) (v := .ref a_N_least) B inlX3 hP 3 rfl rfl 4 rfl mfl_X3_25 rfl rfl dX3_draw_24 ?_
    refine lv_iconst (v := 0) hx hb dX3_draw_27 (by decide) ?_
    refine uSv (As := [.ref a_N_least, .int 0]) (rest := []) (wr := [(a_N_seconds, .inl (K 0, 60, .inl f_N_seconds)), (a_N_greatest, .inl (K 0, 24, .inl f_N_greatest)), (a_N, .inr (3, [.ref a_N_sorts, .ref a_N_firsts, .ref a_N_seconds, .ref a_N_struck, .ref a_N_least, .ref a_N_greatest, .int (nI v_N_size), .int (nI x0), .int v_N_agree, .int (nI v_N_quietUpTo)])), (a_N_sorts, .inl (K 0, 60, .inl f_N_sorts)), (a_N_firsts, .inl (K 0, 60, .inl f_N_firsts)), (a_N_struck, .inl (K 1, 60, .inl u3))]) [(a_N_least, .inl (K 0, 24, .inl f_N_least))] B hl.1 hP hD hS [1] [0, 2, 3, 4, 5, 6] rfl rfl rfl (wJ7_fill_53178_vF24 l D K _ a_N_least f_N_least 0) wd_J7_fill_53178 mml_X3_49 rfl rfl ⟨Nat.le_of_ble_eq_true rfl, Nat.le_of_ble_eq_true rfl⟩ (Nat.le_of_ble_eq_true rfl) ⟨Nat.le_of_ble_eq_true rfl, Nat.le_of_ble_eq_true rfl⟩ dX3_draw_28 (fun u H locs hw hP hD hS => ?_)
    obtain ⟨u6, e9⟩ : ∃ y, y = u := ⟨_, rfl⟩
    subst e9
    try dsimp only at hw
    have hP : va_P D vwCl [(a_N_seconds, .inl (K 0, 60, .inl f_N_seconds)), (a_N_greatest, .inl (K 0, 24, .inl f_N_greatest)), (a_N, .inr (3, [.ref a_N_sorts, .ref a_N_firsts, .ref a_N_seconds, .ref a_N_struck, .ref a_N_least, .ref a_N_greatest, .int (nI v_N_size), .int (nI x0), .int v_N_agree, .int (nI v_N_quietUpTo)])), (a_N_sorts, .inl (K 0, 60, .inl f_N_sorts)), (a_N_firsts, .inl (K 0, 60, .inl f_N_firsts)), (a_N_struck, .inl (K 1, 60, .inl u3)), (a_N_least, .inl (K 0, 24, .inl u6))] H := hP
    have hD := uDPJ hP hD
    refine lv_aload_n hx hb dX3_draw_31 rfl (lv_at hl 0 rfl) ?_
    refine uGet (ci := 3) (C := RX3) (T := TX3) (N := 10) (v := .ref a_N_greatest) B inlX3 hP 2 rfl rfl 5 rfl mfl_X3_28 rfl rfl dX3_draw_32 ?_
    refine lv_sipush (v := 500) hx hb dX3_draw_35 (by decide) ?_
    refine lv_pc (q := 38) rfl ?_
    refine uSv (As := [.ref a_N_greatest, .int 500]) (rest := []) (wr := [(a_N_seconds, .inl (K 0, 60, .inl f_N_seconds)), (a_N, .inr (3, [.ref a_N_sorts, .ref a_N_firsts, .ref a_N_seconds, .ref a_N_struck, .ref a_N_least, .ref a_N_greatest, .int (nI v_N_size), .int (nI x0), .int v_N_agree, .int (nI v_N_quietUpTo)])), (a_N_sorts, .inl (K 0, 60, .inl f_N_sorts)), (a_N_firsts, .inl (K 0, 60, .inl f_N_firsts)), (a_N_struck, .inl (K 1, 60, .inl u3)), (a_N_least, .inl (K 0, 24, .inl u6))]) [(a_N_greatest, .inl (K 0, 24, .inl f_N_greatest))] B hl.1 hP hD hS [1] [0, 2, 3, 4, 5, 6] rfl rfl rfl (wJ7_fill_53178_vF24 l D K _ a_N_greatest f_N_greatest 500) wd_J7_fill_53178 mml_X3_49 rfl rfl ⟨Nat.le_of_ble_eq_true rfl, Nat.le_of_ble_eq_true rfl⟩ (Nat.le_of_ble_eq_true rfl) ⟨Nat.le_of_ble_eq_true rfl, Nat.le_of_ble_eq_true rfl⟩ dX3_draw_38 (fun u H locs hw hP hD hS => ?_)
    obtain ⟨u8, e9⟩ : ∃ y, y = u := ⟨_, rfl⟩
    subst e9
    try dsimp only at hw
    have hP : va_P D vwCl [(a_N_seconds, .inl (K 0, 60, .inl f_N_seconds)), (a_N, .inr (3, [.ref a_N_sorts, .ref a_N_firsts, .ref a_N_seconds, .ref a_N_struck, .ref a_N_least, .ref a_N_greatest, .int (nI v_N_size), .int (nI x0), .int v_N_agree, .int (nI v_N_quietUpTo)])), (a_N_sorts, .inl (K 0, 60, .inl f_N_sorts)), (a_N_firsts, .inl (K 0, 60, .inl f_N_firsts)), (a_N_struck, .inl (K 1, 60, .inl u3)), (a_N_least, .inl (K 0, 24, .inl u6)), (a_N_greatest, .inl (K 0, 24, .inl u8))] H := hP
    have hD := uDPJ hP hD
    refine lv_iconst (v := 0) hx hb dX3_draw_41 (by decide) ?_
    refine lv_istore_n (lv' := [(2, .int 0), (0, .ref a_N), (1, .int (nI x0))]) hx hb dX3_draw_42 rfl hl (by decide) rfl (fun ls hl => ?_)
    have L13 : ∀ (n9 : Nat) (j9 : Nat) (f10 : Nat → Int32) (f11 : Nat → Int32), (j9 ≤ x0) → x0 - j9 < n9 → ∀ (H : Heap) (locs : List Loc) (ls : Array Slot), va_P D vwCl [(a_N_seconds, .inl (K 0, 60, .inl f_N_seconds)), (a_N, .inr (3, [.ref a_N_sorts, .ref a_N_firsts, .ref a_N_seconds, .ref a_N_struck, .ref a_N_least, .ref a_N_greatest, .int (nI v_N_size), .int (nI x0), .int v_N_agree, .int (nI v_N_quietUpTo)])), (a_N_sorts, .inl (K 0, 60, .inl f_N_sorts)), (a_N_firsts, .inl (K 0, 60, .inl f_N_firsts)), (a_N_struck, .inl (K 1, 60, .inl u3)), (a_N_least, .inl (K 0, 24, .inl f10)), (a_N_greatest, .inl (K 0, 24, .inl f11))] H → va_D A [(a_N_seconds, .inl (K 0, 60, .inl f_N_seconds)), (a_N, .inr (3, [.ref a_N_sorts, .ref a_N_firsts, .ref a_N_seconds, .ref a_N_struck, .ref a_N_least, .ref a_N_greatest, .int (nI v_N_size), .int (nI x0), .int v_N_agree, .int (nI v_N_quietUpTo)])), (a_N_sorts, .inl (K 0, 60, .inl f_N_sorts)), (a_N_firsts, .inl (K 0, 60, .inl f_N_firsts)), (a_N_struck, .inl (K 1, 60, .inl u3)), (a_N_least, .inl (K 0, 24, .inl f10)), (a_N_greatest, .inl (K 0, 24, .inl f11))] → va_S A s.heap H locs → lv_has ls 4 [(2, .int (nI j9)), (0, .ref a_N), (1, .int (nI x0))] → W p l e { frames := 4, cells := 0, slots := 0, locals := 83 } s m ([.ref a_N, .int (nI x0)] : List Value).toArray below meth c H locs 0 0 (MQ below (uQi D (qwX3_draw a_N v_N_size v_N_drawnFor v_N_agree v_N_quietUpTo a_N_sorts f_N_sorts a_N_firsts f_N_firsts a_N_seconds f_N_seconds a_N_struck f_N_struck a_N_least f_N_least a_N_greatest f_N_greatest x0) (vwX3_draw K a_N v_N_size v_N_drawnFor v_N_agree v_N_quietUpTo a_N_sorts f_N_sorts a_N_firsts f_N_firsts a_N_seconds f_N_seconds a_N_struck f_N_struck a_N_least f_N_least a_N_greatest f_N_greatest x0) A) ([.ref a_N, .int (nI x0)] : List Value).toArray s 0 0 A) (F0 m 43 ls []) := by
      intro n9
      induction n9 with
      | zero => intros; exact absurd ‹_ < 0› (Nat.not_lt_zero _)
      | succ n43_ ih43 =>
        intro j9 f10 f11 hj9 hm43 H locs ls hP hD hS hl
        refine lv_iload_n hx hb dX3_draw_43 rfl (lv_at hl 0 rfl) ?_
        refine lv_iload_n hx hb dX3_draw_44 rfl (lv_at hl 2 rfl) ?_
        refine lv_icmp_ge (tgt := 68) hx hb dX3_draw_45 (by decide) (fun c14 => ?_) (fun c14 => ?_)
        · have k_14 : x0 ≤ j9 := (nI_leI (a := x0) (b := j9) (by omega) (by omega)).mp c14
          refine lv_pc (q := 68) rfl ?_
          refine lv_iconst (v := 1) hx hb dX3_draw_68 (by decide) ?_
          refine lv_istore_n (lv' := [(2, .int 1), (0, .ref a_N), (1, .int (nI x0))]) hx hb dX3_draw_69 rfl hl (by decide) rfl (fun ls hl => ?_)
          refine lv_iconst (v := 0) hx hb dX3_draw_70 (by decide) ?_
          refine lv_istore_n (lv' := [(3, .int 0), (2, .int 1), (0, .ref a_N), (1, .int (nI x0))]) hx hb dX3_draw_71 rfl hl (by decide) rfl (fun ls hl => ?_)
          have L20 : ∀ (n9 : Nat) (j15 : Nat) (f16 : Nat → Int32) (f17 : Nat → Int32) (y18 : Int32), (j15 ≤ 24) → (y18 = 0 ∨ y18 = 1) → 24 - j15 < n9 → ∀ (H : Heap) (locs : List Loc) (ls : Array Slot), va_P D vwCl [(a_N_seconds, .inl (K 0, 60, .inl f_N_seconds)), (a_N, .inr (3, [.ref a_N_sorts, .ref a_N_firsts, .ref a_N_seconds, .ref a_N_struck, .ref a_N_least, .ref a_N_greatest, .int (nI v_N_size), .int (nI x0), .int v_N_agree, .int (nI v_N_quietUpTo)])), (a_N_sorts, .inl (K 0, 60, .inl f_N_sorts)), (a_N_firsts, .inl (K 0, 60, .inl f_N_firsts)), (a_N_struck, .inl (K 1, 60, .inl u3)), (a_N_least, .inl (K 0, 24, .inl f16)), (a_N_greatest, .inl (K 0, 24, .inl f17))] H → va_D A [(a_N_seconds, .inl (K 0, 60, .inl f_N_seconds)), (a_N, .inr (3, [.ref a_N_sorts, .ref a_N_firsts, .ref a_N_seconds, .ref a_N_struck, .ref a_N_least, .ref a_N_greatest, .int (nI v_N_size), .int (nI x0), .int v_N_agree, .int (nI v_N_quietUpTo)])), (a_N_sorts, .inl (K 0, 60, .inl f_N_sorts)), (a_N_firsts, .inl (K 0, 60, .inl f_N_firsts)), (a_N_struck, .inl (K 1, 60, .inl u3)), (a_N_least, .inl (K 0, 24, .inl f16)), (a_N_greatest, .inl (K 0, 24, .inl f17))] → va_S A s.heap H locs → lv_has ls 4 [(3, .int (nI j15)), (2, .int y18), (0, .ref a_N), (1, .int (nI x0))] → W p l e { frames := 4, cells := 0, slots := 0, locals := 83 } s m ([.ref a_N, .int (nI x0)] : List Value).toArray below meth c H locs 0 0 (MQ below (uQi D (qwX3_draw a_N v_N_size v_N_drawnFor v_N_agree v_N_quietUpTo a_N_sorts f_N_sorts a_N_firsts f_N_firsts a_N_seconds f_N_seconds a_N_struck f_N_struck a_N_least f_N_least a_N_greatest f_N_greatest x0) (vwX3_draw K a_N v_N_size v_N_drawnFor v_N_agree v_N_quietUpTo a_N_sorts f_N_sorts a_N_firsts f_N_firsts a_N_seconds f_N_seconds a_N_struck f_N_struck a_N_least f_N_least a_N_greatest f_N_greatest x0) A) ([.ref a_N, .int (nI x0)] : List Value).toArray s 0 0 A) (F0 m 72 ls []) := by
            intro n9
            induction n9 with
            | zero => intros; exact absurd ‹_ < 0› (Nat.not_lt_zero _)
            | succ n72_ ih72 =>
              intro j15 f16 f17 y18 hj15 hy18 hm72 H locs ls hP hD hS hl
              refine lv_iload_n hx hb dX3_draw_72 rfl (lv_at hl 1 rfl) ?_
              refine lv_if_eq (tgt := 94) hx hb dX3_draw_73 (by decide) (fun c21 => ?_) (fun c21 => ?_)
              · refine lv_pc (q := 94) rfl ?_
                refine lv_aload_n hx hb dX3_draw_94 rfl (lv_at hl 2 rfl) ?_
                refine lv_aload_n hx hb dX3_draw_95 rfl (lv_at hl 2 rfl) ?_
                refine uViJ (As := []) (rest := [.ref a_N]) (wr := [(a_N_seconds, .inl (K 0, 60, .inl f_N_seconds)), (a_N_sorts, .inl (K 0, 60, .inl f_N_sorts)), (a_N_firsts, .inl (K 0, 60, .inl f_N_firsts)), (a_N_struck, .inl (K 1, 60, .inl u3))]) (wX3_boundsMeet l D K _ a_N v_N_size (nI x0) v_N_agree v_N_quietUpTo a_N_least f16 a_N_greatest f17 a_N_sorts a_N_firsts a_N_seconds a_N_struck (by omega) hv_N_agree (by omega)) B hl.1 hP hD hS [1, 5, 6] [0, 2, 3, 4] rfl rfl rfl wd_X3_boundsMeet mml_X3_62 rfl rfl rfl rfl ⟨Nat.le_of_ble_eq_true rfl, Nat.le_of_ble_eq_true rfl⟩ (Nat.le_of_ble_eq_true rfl) ⟨Nat.le_of_ble_eq_true rfl, Nat.le_of_ble_eq_true rfl⟩ dX3_draw_96 (fun r22 u H locs hw hP hD hS => ?_)
                try dsimp only at hw
                have w23 := hw
                have hP : va_P D vwCl [(a_N_seconds, .inl (K 0, 60, .inl f_N_seconds)), (a_N_sorts, .inl (K 0, 60, .inl f_N_sorts)), (a_N_firsts, .inl (K 0, 60, .inl f_N_firsts)), (a_N_struck, .inl (K 1, 60, .inl u3)), (a_N, .inr (3, [.ref a_N_sorts, .ref a_N_firsts, .ref a_N_seconds, .ref a_N_struck, .ref a_N_least, .ref a_N_greatest, .int (nI v_N_size), .int (nI x0), .int v_N_agree, .int (nI v_N_quietUpTo)])), (a_N_least, .inl (K 0, 24, .inl f16)), (a_N_greatest, .inl (K 0, 24, .inl f17))] H := hP
                have hD := uDPJ hP hD
                rcases w23 with rfl | rfl
                · refine uPut (ci := 3) (C := RX3) (T := TX3) (N := 10) (ws' := [(a_N_seconds, .inl (K 0, 60, .inl f_N_seconds)), (a_N_sorts, .inl (K 0, 60, .inl f_N_sorts)), (a_N_firsts, .inl (K 0, 60, .inl f_N_firsts)), (a_N_struck, .inl (K 1, 60, .inl u3)), (a_N, .inr (3, [.ref a_N_sorts, .ref a_N_firsts, .ref a_N_seconds, .ref a_N_struck, .ref a_N_least, .ref a_N_greatest, .int (nI v_N_size), .int (nI x0), .int 0, .int (nI v_N_quietUpTo)])), (a_N_least, .inl (K 0, 24, .inl f16)), (a_N_greatest, .inl (K 0, 24, .inl f17))]) B inlX3 tyX3_ok nmX3 hP hD hS 4 rfl rfl 8 rfl mfl_X3_38 rfl rfl rfl rfl rfl rfl dX3_draw_99 (fun H locs hP hD hS => ?_)
                  refine lv_aload_n hx hb dX3_draw_102 rfl (lv_at hl 2 rfl) ?_
                  refine uGet (ci := 3) (C := RX3) (T := TX3) (N := 10) (v := .int 0) B inlX3 hP 4 rfl rfl 8 rfl mfl_X3_38 rfl rfl dX3_draw_103 ?_
                  refine lv_pc (q := 106) rfl ?_
                  exact uRz (nI x0, 0, u3, f16, f17) B rfl ⟨(Or.inl rfl), (Or.inl rfl), w4⟩ (uSub hP [4, 1, 2, 0, 3, 5, 6] rfl) (hD.sub [4, 1, 2, 0, 3, 5, 6] rfl rfl) hS dX3_draw_106
                refine uPut (ci := 3) (C := RX3) (T := TX3) (N := 10) (ws' := [(a_N_seconds, .inl (K 0, 60, .inl f_N_seconds)), (a_N_sorts, .inl (K 0, 60, .inl f_N_sorts)), (a_N_firsts, .inl (K 0, 60, .inl f_N_firsts)), (a_N_struck, .inl (K 1, 60, .inl u3)), (a_N, .inr (3, [.ref a_N_sorts, .ref a_N_firsts, .ref a_N_seconds, .ref a_N_struck, .ref a_N_least, .ref a_N_greatest, .int (nI v_N_size), .int (nI x0), .int 1, .int (nI v_N_quietUpTo)])), (a_N_least, .inl (K 0, 24, .inl f16)), (a_N_greatest, .inl (K 0, 24, .inl f17))]) B inlX3 tyX3_ok nmX3 hP hD hS 4 rfl rfl 8 rfl mfl_X3_38 rfl rfl rfl rfl rfl rfl dX3_draw_99 (fun H locs hP hD hS => ?_)
                refine lv_aload_n hx hb dX3_draw_102 rfl (lv_at hl 2 rfl) ?_
                refine uGet (ci := 3) (C := RX3) (T := TX3) (N := 10) (v := .int 1) B inlX3 hP 4 rfl rfl 8 rfl mfl_X3_38 rfl rfl dX3_draw_103 ?_
                refine lv_pc (q := 106) rfl ?_
                exact uRz (nI x0, 1, u3, f16, f17) B rfl ⟨(Or.inr rfl), (Or.inr rfl), w4⟩ (uSub hP [4, 1, 2, 0, 3, 5, 6] rfl) (hD.sub [4, 1, 2, 0, 3, 5, 6] rfl rfl) hS dX3_draw_106
              refine lv_pc (q := 76) rfl ?_
              refine lv_iload_n hx hb dX3_draw_76 rfl (lv_at hl 0 rfl) ?_
              refine lv_bipush (v := 24) hx hb dX3_draw_77 (by decide) ?_
              refine lv_icmp_ge (tgt := 94) hx hb dX3_draw_79 (by decide) (fun c24 => ?_) (fun c24 => ?_)
              · have k_24 : 24 ≤ j15 := (nI_leI (a := 24) (b := j15) (by omega) (by omega)).mp c24
                refine lv_aload_n hx hb dX3_draw_94 rfl (lv_at hl 2 rfl) ?_
                refine lv_aload_n hx hb dX3_draw_95 rfl (lv_at hl 2 rfl) ?_
                refine uViJ (As := []) (rest := [.ref a_N]) (wr := [(a_N_seconds, .inl (K 0, 60, .inl f_N_seconds)), (a_N_sorts, .inl (K 0, 60, .inl f_N_sorts)), (a_N_firsts, .inl (K 0, 60, .inl f_N_firsts)), (a_N_struck, .inl (K 1, 60, .inl u3))]) (wX3_boundsMeet l D K _ a_N v_N_size (nI x0) v_N_agree v_N_quietUpTo a_N_least f16 a_N_greatest f17 a_N_sorts a_N_firsts a_N_seconds a_N_struck (by omega) hv_N_agree (by omega)) B hl.1 hP hD hS [1, 5, 6] [0, 2, 3, 4] rfl rfl rfl wd_X3_boundsMeet mml_X3_62 rfl rfl rfl rfl ⟨Nat.le_of_ble_eq_true rfl, Nat.le_of_ble_eq_true rfl⟩ (Nat.le_of_ble_eq_true rfl) ⟨Nat.le_of_ble_eq_true rfl, Nat.le_of_ble_eq_true rfl⟩ dX3_draw_96 (fun r25 u H locs hw hP hD hS => ?_)
                try dsimp only at hw
                have w26 := hw
                have hP : va_P D vwCl [(a_N_seconds, .inl (K 0, 60, .inl f_N_seconds)), (a_N_sorts, .inl (K 0, 60, .inl f_N_sorts)), (a_N_firsts, .inl (K 0, 60, .inl f_N_firsts)), (a_N_struck, .inl (K 1, 60, .inl u3)), (a_N, .inr (3, [.ref a_N_sorts, .ref a_N_firsts, .ref a_N_seconds, .ref a_N_struck, .ref a_N_least, .ref a_N_greatest, .int (nI v_N_size), .int (nI x0), .int v_N_agree, .int (nI v_N_quietUpTo)])), (a_N_least, .inl (K 0, 24, .inl f16)), (a_N_greatest, .inl (K 0, 24, .inl f17))] H := hP
                have hD := uDPJ hP hD
                rcases w26 with rfl | rfl
                · refine lv_pc (q := 99) rfl ?_
                  refine uPut (ci := 3) (C := RX3) (T := TX3) (N := 10) (ws' := [(a_N_seconds, .inl (K 0, 60, .inl f_N_seconds)), (a_N_sorts, .inl (K 0, 60, .inl f_N_sorts)), (a_N_firsts, .inl (K 0, 60, .inl f_N_firsts)), (a_N_struck, .inl (K 1, 60, .inl u3)), (a_N, .inr (3, [.ref a_N_sorts, .ref a_N_firsts, .ref a_N_seconds, .ref a_N_struck, .ref a_N_least, .ref a_N_greatest, .int (nI v_N_size), .int (nI x0), .int 0, .int (nI v_N_quietUpTo)])), (a_N_least, .inl (K 0, 24, .inl f16)), (a_N_greatest, .inl (K 0, 24, .inl f17))]) B inlX3 tyX3_ok nmX3 hP hD hS 4 rfl rfl 8 rfl mfl_X3_38 rfl rfl rfl rfl rfl rfl dX3_draw_99 (fun H locs hP hD hS => ?_)
                  refine lv_aload_n hx hb dX3_draw_102 rfl (lv_at hl 2 rfl) ?_
                  refine uGet (ci := 3) (C := RX3) (T := TX3) (N := 10) (v := .int 0) B inlX3 hP 4 rfl rfl 8 rfl mfl_X3_38 rfl rfl dX3_draw_103 ?_
                  exact uRz (nI x0, 0, u3, f16, f17) B rfl ⟨(Or.inl rfl), (Or.inl rfl), w4⟩ (uSub hP [4, 1, 2, 0, 3, 5, 6] rfl) (hD.sub [4, 1, 2, 0, 3, 5, 6] rfl rfl) hS dX3_draw_106
                refine lv_pc (q := 99) rfl ?_
                refine uPut (ci := 3) (C := RX3) (T := TX3) (N := 10) (ws' := [(a_N_seconds, .inl (K 0, 60, .inl f_N_seconds)), (a_N_sorts, .inl (K 0, 60, .inl f_N_sorts)), (a_N_firsts, .inl (K 0, 60, .inl f_N_firsts)), (a_N_struck, .inl (K 1, 60, .inl u3)), (a_N, .inr (3, [.ref a_N_sorts, .ref a_N_firsts, .ref a_N_seconds, .ref a_N_struck, .ref a_N_least, .ref a_N_greatest, .int (nI v_N_size), .int (nI x0), .int 1, .int (nI v_N_quietUpTo)])), (a_N_least, .inl (K 0, 24, .inl f16)), (a_N_greatest, .inl (K 0, 24, .inl f17))]) B inlX3 tyX3_ok nmX3 hP hD hS 4 rfl rfl 8 rfl mfl_X3_38 rfl rfl rfl rfl rfl rfl dX3_draw_99 (fun H locs hP hD hS => ?_)
                refine lv_aload_n hx hb dX3_draw_102 rfl (lv_at hl 2 rfl) ?_
                refine uGet (ci := 3) (C := RX3) (T := TX3) (N := 10) (v := .int 1) B inlX3 hP 4 rfl rfl 8 rfl mfl_X3_38 rfl rfl dX3_draw_103 ?_
                exact uRz (nI x0, 1, u3, f16, f17) B rfl ⟨(Or.inr rfl), (Or.inr rfl), w4⟩ (uSub hP [4, 1, 2, 0, 3, 5, 6] rfl) (hD.sub [4, 1, 2, 0, 3, 5, 6] rfl rfl) hS dX3_draw_106
              have k_24 : ¬ 24 ≤ j15 := fun h9 => c24 ((nI_leI (a := 24) (b := j15) (by omega) (by omega)).mpr h9)
              refine lv_aload_n hx hb dX3_draw_82 rfl (lv_at hl 2 rfl) ?_
              refine lv_iload_n hx hb dX3_draw_83 rfl (lv_at hl 3 rfl) ?_
              refine uViJ (As := [.int (nI x0)]) (rest := []) (wr := []) (wX3_handOn l D K _ a_N v_N_size (nI x0) v_N_agree v_N_quietUpTo a_N_sorts f_N_sorts a_N_firsts f_N_firsts a_N_seconds f_N_seconds a_N_struck u3 a_N_least f16 a_N_greatest f17 x0 (by omega) hv_N_agree (by omega) r_N_sorts r_N_firsts r_N_seconds w4 (by omega) i_uNt) B hl.1 hP hD hS [1, 2, 3, 0, 4, 5, 6] [] rfl rfl rfl wd_X3_handOn mml_X3_58 rfl rfl rfl rfl ⟨Nat.le_of_ble_eq_true rfl, Nat.le_of_ble_eq_true rfl⟩ (Nat.le_of_ble_eq_true rfl) ⟨Nat.le_of_ble_eq_true rfl, Nat.le_of_ble_eq_true rfl⟩ dX3_draw_84 (fun r27 u H locs hw hP hD hS => ?_)
              obtain ⟨u28, u29⟩ := u
              try dsimp only at hw
              have w30 := hw
              have hP : va_P D vwCl [(a_N, .inr (3, [.ref a_N_sorts, .ref a_N_firsts, .ref a_N_seconds, .ref a_N_struck, .ref a_N_least, .ref a_N_greatest, .int (nI v_N_size), .int (nI x0), .int v_N_agree, .int (nI v_N_quietUpTo)])), (a_N_sorts, .inl (K 0, 60, .inl f_N_sorts)), (a_N_firsts, .inl (K 0, 60, .inl f_N_firsts)), (a_N_seconds, .inl (K 0, 60, .inl f_N_seconds)), (a_N_struck, .inl (K 1, 60, .inl u3)), (a_N_least, .inl (K 0, 24, .inl u28)), (a_N_greatest, .inl (K 0, 24, .inl u29))] H := hP
              have hD := uDPJ hP hD
              refine lv_pc (q := 87) rfl ?_
              refine lv_istore_n (lv' := [(2, .int r27), (3, .int (nI j15)), (0, .ref a_N), (1, .int (nI x0))]) hx hb dX3_draw_87 rfl hl (by decide) rfl (fun ls hl => ?_)
              refine lv_iinc (v := nI (j15 + 1)) (lv' := [(3, .int (nI (j15 + 1))), (2, .int r27), (0, .ref a_N), (1, .int (nI x0))]) hx hb dX3_draw_88 hl (k := 1) rfl (nI_1 _) (by decide) rfl (fun ls hl => ?_)
              refine lv_goto (tgt := 72) hx hb dX3_draw_91 (by decide) ?_
              refine lv_pc (q := 72) rfl ?_
              refine W.widen (k := 0) (n := 0) (Nat.le_of_ble_eq_true rfl) (Nat.le_of_ble_eq_true rfl) ?_
              exact ih72 (j15 + 1) u28 u29 r27 (by omega) w30 (by omega) _ _ _ (uSub hP [3, 0, 1, 2, 4, 5, 6] rfl) (hD.sub [3, 0, 1, 2, 4, 5, 6] rfl rfl) hS (lv_sub hl [0, 1, 2, 3] rfl)
          refine lv_pc (q := 72) rfl ?_
          refine W.widen (k := 0) (n := 0) (Nat.le_of_ble_eq_true rfl) (Nat.le_of_ble_eq_true rfl) ?_
          exact L20 ((24 - 0) + 1) 0 f10 f11 1 (by omega) (Or.inr rfl) (Nat.lt_succ_self _) _ _ _ hP hD hS hl
        have k_14 : ¬ x0 ≤ j9 := fun h9 => c14 ((nI_leI (a := x0) (b := j9) (by omega) (by omega)).mpr h9)
        refine lv_pc (q := 48) rfl ?_
        refine lv_aload_n hx hb dX3_draw_48 rfl (lv_at hl 1 rfl) ?_
        refine uGet (ci := 3) (C := RX3) (T := TX3) (N := 10) (v := .ref a_N_struck) B inlX3 hP 1 rfl rfl 3 rfl mfl_X3_21 rfl rfl dX3_draw_49 ?_
        refine lv_iload_n hx hb dX3_draw_52 rfl (lv_at hl 0 rfl) ?_
        refine uZald (i := (nI j9)) (j := j9) B hP 4 rfl (nI_in (by omega) (by omega)) (nI_clamp (by omega)) dX3_draw_53 ?_
        refine lv_if_ne (tgt := 62) hx hb dX3_draw_54 (by decide) (fun c31 => ?_) (fun c31 => ?_)
        · refine lv_iinc (v := nI (j9 + 1)) (lv' := [(2, .int (nI (j9 + 1))), (0, .ref a_N), (1, .int (nI x0))]) hx hb dX3_draw_62 hl (k := 0) rfl (nI_1 _) (by decide) rfl (fun ls hl => ?_)
          refine lv_pc (q := 65) rfl ?_
          refine lv_goto (tgt := 43) hx hb dX3_draw_65 (by decide) ?_
          refine lv_pc (q := 43) rfl ?_
          refine W.widen (k := 0) (n := 0) (Nat.le_of_ble_eq_true rfl) (Nat.le_of_ble_eq_true rfl) ?_
          exact ih43 (j9 + 1) f10 f11 (by omega) (by omega) _ _ _ (uSub hP [0, 1, 2, 3, 4, 5, 6] rfl) (hD.sub [0, 1, 2, 3, 4, 5, 6] rfl rfl) hS (lv_sub hl [0, 1, 2] rfl)
        refine lv_aload_n hx hb dX3_draw_57 rfl (lv_at hl 1 rfl) ?_
        refine lv_pc (q := 58) rfl ?_
        refine lv_iload_n hx hb dX3_draw_58 rfl (lv_at hl 0 rfl) ?_
        refine uVvJ (As := [.int (nI j9)]) (rest := []) (wr := [(a_N_struck, .inl (K 1, 60, .inl u3))]) (wX3_setBounds l D K _ a_N v_N_size (nI x0) v_N_agree v_N_quietUpTo a_N_sorts f_N_sorts a_N_firsts f_N_firsts a_N_seconds f_N_seconds a_N_least f10 a_N_greatest f11 a_N_struck j9 (by omega) hv_N_agree (by omega) r_N_sorts r_N_firsts r_N_seconds (by omega) i_uNt) B hl.1 hP hD hS [1, 2, 3, 0, 5, 6] [4] rfl rfl rfl wd_X3_setBounds mml_X3_55 rfl rfl rfl rfl ⟨Nat.le_of_ble_eq_true rfl, Nat.le_of_ble_eq_true rfl⟩ (Nat.le_of_ble_eq_true rfl) ⟨Nat.le_of_ble_eq_true rfl, Nat.le_of_ble_eq_true rfl⟩ dX3_draw_59 (fun u H locs hw hP hD hS => ?_)
        obtain ⟨u33, u34⟩ := u
        try dsimp only at hw
        have hP : va_P D vwCl [(a_N_struck, .inl (K 1, 60, .inl u3)), (a_N, .inr (3, [.ref a_N_sorts, .ref a_N_firsts, .ref a_N_seconds, .ref a_N_struck, .ref a_N_least, .ref a_N_greatest, .int (nI v_N_size), .int (nI x0), .int v_N_agree, .int (nI v_N_quietUpTo)])), (a_N_sorts, .inl (K 0, 60, .inl f_N_sorts)), (a_N_firsts, .inl (K 0, 60, .inl f_N_firsts)), (a_N_seconds, .inl (K 0, 60, .inl f_N_seconds)), (a_N_least, .inl (K 0, 24, .inl u33)), (a_N_greatest, .inl (K 0, 24, .inl u34))] H := hP
        have hD := uDPJ hP hD
        refine lv_iinc (v := nI (j9 + 1)) (lv' := [(2, .int (nI (j9 + 1))), (0, .ref a_N), (1, .int (nI x0))]) hx hb dX3_draw_62 hl (k := 0) rfl (nI_1 _) (by decide) rfl (fun ls hl => ?_)
        refine lv_goto (tgt := 43) hx hb dX3_draw_65 (by decide) ?_
        refine lv_pc (q := 43) rfl ?_
        refine W.widen (k := 0) (n := 0) (Nat.le_of_ble_eq_true rfl) (Nat.le_of_ble_eq_true rfl) ?_
        exact ih43 (j9 + 1) u33 u34 (by omega) (by omega) _ _ _ (uSub hP [4, 1, 2, 3, 0, 5, 6] rfl) (hD.sub [4, 1, 2, 3, 0, 5, 6] rfl rfl) hS (lv_sub hl [0, 1, 2] rfl)
    refine lv_pc (q := 43) rfl ?_
    refine W.widen (k := 0) (n := 0) (Nat.le_of_ble_eq_true rfl) (Nat.le_of_ble_eq_true rfl) ?_
    exact L13 ((x0 - 0) + 1) 0 u6 u8 (by omega) (Nat.lt_succ_self _) _ _ _ hP hD hS hl
  refine lv_aload_n hx hb dX3_draw_8 rfl (lv_at hl 0 rfl) ?_
  refine lv_pc (q := 9) rfl ?_
  refine uGet (ci := 3) (C := RX3) (T := TX3) (N := 10) (v := .int v_N_agree) B inlX3 hP 0 rfl rfl 8 rfl mfl_X3_38 rfl rfl dX3_draw_9 ?_
  exact uRz (v_N_drawnFor, v_N_agree, f_N_struck, f_N_least, f_N_greatest) B (uBz hv_N_agree) ⟨hv_N_agree, hv_N_agree, b_N_struck⟩ (uSub hP [0, 1, 2, 3, 4, 5, 6] rfl) (hD.sub [0, 1, 2, 3, 4, 5, 6] rfl rfl) hS dX3_draw_12
def qwX3_edge (a_N : Nat) (v_N_size : Nat) (v_N_drawnFor : Int32) (v_N_agree : Int32) (v_N_quietUpTo : Nat) (a_N_least : Nat) (f_N_least : Nat → Int32) (a_N_greatest : Nat) (f_N_greatest : Nat → Int32) (a_N_sorts : Nat) (a_N_firsts : Nat) (a_N_seconds : Nat) (a_N_struck : Nat) (x0 : Nat) (x1 : Int32) : Int32 → (Unit) → Prop := (fun (r : Int32) (u : Unit) => True)
def vwX3_edge (K : Nat → ClassId) (a_N : Nat) (v_N_size : Nat) (v_N_drawnFor : Int32) (v_N_agree : Int32) (v_N_quietUpTo : Nat) (a_N_least : Nat) (f_N_least : Nat → Int32) (a_N_greatest : Nat) (f_N_greatest : Nat → Int32) (a_N_sorts : Nat) (a_N_firsts : Nat) (a_N_seconds : Nat) (a_N_struck : Nat) (x0 : Nat) (x1 : Int32) : (Unit) → va_W := (fun (u : Unit) => [(a_N, .inr (3, [.ref a_N_sorts, .ref a_N_firsts, .ref a_N_seconds, .ref a_N_struck, .ref a_N_least, .ref a_N_greatest, .int (nI v_N_size), .int v_N_drawnFor, .int v_N_agree, .int (nI v_N_quietUpTo)])), (a_N_least, .inl (K 0, 24, .inl f_N_least)), (a_N_greatest, .inl (K 0, 24, .inl f_N_greatest))])
set_option maxHeartbeats 4000000 in
set_option maxRecDepth 100000 in
theorem wX3_edge (l : Launch) (D : va_G) (K : Nat → ClassId) (sz : Nat) (a_N : Nat) (v_N_size : Nat) (v_N_drawnFor : Int32) (v_N_agree : Int32) (v_N_quietUpTo : Nat) (a_N_least : Nat) (f_N_least : Nat → Int32) (a_N_greatest : Nat) (f_N_greatest : Nat → Int32) (a_N_sorts : Nat) (a_N_firsts : Nat) (a_N_seconds : Nat) (a_N_struck : Nat) (x0 : Nat) (x1 : Int32) (hv_N_size : v_N_size ≤ 60) (hv_N_agree : v_N_agree = 0 ∨ v_N_agree = 1) (hv_N_quietUpTo : v_N_quietUpTo ≤ 60) (hx0 : x0 < 12) : uMi l yX3_edge cX3_edge 4 (some .int) { frames := 1, cells := 0, slots := 0, locals := 20 } [.ref a_N, .int (nI x0), .int x1] D K [(a_N, .inr (3, [.ref a_N_sorts, .ref a_N_firsts, .ref a_N_seconds, .ref a_N_struck, .ref a_N_least, .ref a_N_greatest, .int (nI v_N_size), .int v_N_drawnFor, .int v_N_agree, .int (nI v_N_quietUpTo)])), (a_N_least, .inl (K 0, 24, .inl f_N_least)), (a_N_greatest, .inl (K 0, 24, .inl f_N_greatest))] sz (qwX3_edge a_N v_N_size v_N_drawnFor v_N_agree v_N_quietUpTo a_N_least f_N_least a_N_greatest f_N_greatest a_N_sorts a_N_firsts a_N_seconds a_N_struck x0 x1) (vwX3_edge K a_N v_N_size v_N_drawnFor v_N_agree v_N_quietUpTo a_N_least f_N_least a_N_greatest f_N_greatest a_N_sorts a_N_firsts a_N_seconds a_N_struck x0 x1) := by
  refine uMet (Qc := uQi D (qwX3_edge a_N v_N_size v_N_drawnFor v_N_agree v_N_quietUpTo a_N_least f_N_least a_N_greatest f_N_greatest a_N_sorts a_N_firsts a_N_seconds a_N_struck x0 x1) (vwX3_edge K a_N v_N_size v_N_drawnFor v_N_agree v_N_quietUpTo a_N_least f_N_least a_N_greatest f_N_greatest a_N_sorts a_N_firsts a_N_seconds a_N_struck x0 x1)) (ret := (some .int)) (by decide) (Nat.le_of_ble_eq_true rfl) ?_
  intro p e s m below meth c A ls hAe hsz B hP hD hS hl
  have hx := B.1
  have hb := B.2.1
  have hl : lv_has ls 4 [(0, .ref a_N), (1, .int (nI x0)), (2, .int x1)] := hl
  refine lv_iload_n hx hb dX3_edge_0 rfl (lv_at hl 2 rfl) ?_
  refine lv_iconst (v := 2) hx hb dX3_edge_1 (by decide) ?_
  refine lv_icmp_ge (tgt := 12) hx hb dX3_edge_2 (by decide) (fun c1 => ?_) (fun c1 => ?_)
  · refine lv_iload_n hx hb dX3_edge_12 rfl (lv_at hl 1 rfl) ?_
    refine uSi (As := [.int (nI x0)]) (rest := []) (wr := [(a_N, .inr (3, [.ref a_N_sorts, .ref a_N_firsts, .ref a_N_seconds, .ref a_N_struck, .ref a_N_least, .ref a_N_greatest, .int (nI v_N_size), .int v_N_drawnFor, .int v_N_agree, .int (nI v_N_quietUpTo)])), (a_N_least, .inl (K 0, 24, .inl f_N_least)), (a_N_greatest, .inl (K 0, 24, .inl f_N_greatest))]) [] B hl.1 hP hD hS [] [0, 1, 2] rfl rfl rfl (wX3_end l D K _ x0 (by omega)) wd_X3_end mml_X3_74 rfl rfl ⟨Nat.le_of_ble_eq_true rfl, Nat.le_of_ble_eq_true rfl⟩ (Nat.le_of_ble_eq_true rfl) ⟨Nat.le_of_ble_eq_true rfl, Nat.le_of_ble_eq_true rfl⟩ dX3_edge_13 (fun r2 u H locs hw hP hD hS => ?_)
    try dsimp only at hw
    have w3 := hw
    have hP : va_P D vwCl [(a_N, .inr (3, [.ref a_N_sorts, .ref a_N_firsts, .ref a_N_seconds, .ref a_N_struck, .ref a_N_least, .ref a_N_greatest, .int (nI v_N_size), .int v_N_drawnFor, .int v_N_agree, .int (nI v_N_quietUpTo)])), (a_N_least, .inl (K 0, 24, .inl f_N_least)), (a_N_greatest, .inl (K 0, 24, .inl f_N_greatest))] H := hP
    have hD := uDPJ hP hD
    obtain ⟨a4, ha4, ea4⟩ := w3
    refine lv_fixi (y := (nI a4)) ea4 ?_
    refine lv_pc (q := 16) rfl ?_
    refine lv_istore_n (lv' := [(3, .int (nI a4)), (0, .ref a_N), (1, .int (nI x0)), (2, .int x1)]) hx hb dX3_edge_16 rfl hl (by decide) rfl (fun ls hl => ?_)
    refine lv_iload_n hx hb dX3_edge_17 rfl (lv_at hl 3 rfl) ?_
    refine lv_iconst (v := 2) hx hb dX3_edge_18 (by decide) ?_
    refine lv_irem hx hb dX3_edge_19 (by decide) ?_
    refine lv_if_ne (tgt := 32) hx hb dX3_edge_20 (by decide) (fun c5 => ?_) (fun c5 => ?_)
    · refine lv_aload_n hx hb dX3_edge_32 rfl (lv_at hl 1 rfl) ?_
      refine lv_pc (q := 33) rfl ?_
      refine uGet (ci := 3) (C := RX3) (T := TX3) (N := 10) (v := .ref a_N_greatest) B inlX3 hP 0 rfl rfl 5 rfl mfl_X3_28 rfl rfl dX3_edge_33 ?_
      refine lv_iload_n hx hb dX3_edge_36 rfl (lv_at hl 0 rfl) ?_
      refine uIald (i := (nI a4)) (j := a4) B hP 2 rfl (nI_in (by omega) (by omega)) (nI_clamp (by omega)) dX3_edge_37 ?_
      exact uRi () B trivial (uSub hP [0, 1, 2] rfl) (hD.sub [0, 1, 2] rfl rfl) hS dX3_edge_38
    refine lv_aload_n hx hb dX3_edge_23 rfl (lv_at hl 1 rfl) ?_
    refine lv_pc (q := 24) rfl ?_
    refine uGet (ci := 3) (C := RX3) (T := TX3) (N := 10) (v := .ref a_N_least) B inlX3 hP 0 rfl rfl 4 rfl mfl_X3_25 rfl rfl dX3_edge_24 ?_
    refine lv_iload_n hx hb dX3_edge_27 rfl (lv_at hl 0 rfl) ?_
    refine uIald (i := (nI a4)) (j := a4) B hP 1 rfl (nI_in (by omega) (by omega)) (nI_clamp (by omega)) dX3_edge_28 ?_
    refine lv_goto (tgt := 38) hx hb dX3_edge_29 (by decide) ?_
    exact uRi () B trivial (uSub hP [0, 1, 2] rfl) (hD.sub [0, 1, 2] rfl rfl) hS dX3_edge_38
  refine lv_iload_n hx hb dX3_edge_5 rfl (lv_at hl 1 rfl) ?_
  refine uSi (As := [.int (nI x0)]) (rest := []) (wr := [(a_N, .inr (3, [.ref a_N_sorts, .ref a_N_firsts, .ref a_N_seconds, .ref a_N_struck, .ref a_N_least, .ref a_N_greatest, .int (nI v_N_size), .int v_N_drawnFor, .int v_N_agree, .int (nI v_N_quietUpTo)])), (a_N_least, .inl (K 0, 24, .inl f_N_least)), (a_N_greatest, .inl (K 0, 24, .inl f_N_greatest))]) [] B hl.1 hP hD hS [] [0, 1, 2] rfl rfl rfl (wX3_begin l D K _ x0 (by omega)) wd_X3_begin mml_X3_66 rfl rfl ⟨Nat.le_of_ble_eq_true rfl, Nat.le_of_ble_eq_true rfl⟩ (Nat.le_of_ble_eq_true rfl) ⟨Nat.le_of_ble_eq_true rfl, Nat.le_of_ble_eq_true rfl⟩ dX3_edge_6 (fun r6 u H locs hw hP hD hS => ?_)
  try dsimp only at hw
  have w7 := hw
  have hP : va_P D vwCl [(a_N, .inr (3, [.ref a_N_sorts, .ref a_N_firsts, .ref a_N_seconds, .ref a_N_struck, .ref a_N_least, .ref a_N_greatest, .int (nI v_N_size), .int v_N_drawnFor, .int v_N_agree, .int (nI v_N_quietUpTo)])), (a_N_least, .inl (K 0, 24, .inl f_N_least)), (a_N_greatest, .inl (K 0, 24, .inl f_N_greatest))] H := hP
  have hD := uDPJ hP hD
  obtain ⟨a8, ha8, ea8⟩ := w7
  refine lv_fixi (y := (nI a8)) ea8 ?_
  refine lv_pc (q := 9) rfl ?_
  refine lv_goto (tgt := 16) hx hb dX3_edge_9 (by decide) ?_
  refine lv_istore_n (lv' := [(3, .int (nI a8)), (0, .ref a_N), (1, .int (nI x0)), (2, .int x1)]) hx hb dX3_edge_16 rfl hl (by decide) rfl (fun ls hl => ?_)
  refine lv_iload_n hx hb dX3_edge_17 rfl (lv_at hl 3 rfl) ?_
  refine lv_iconst (v := 2) hx hb dX3_edge_18 (by decide) ?_
  refine lv_irem hx hb dX3_edge_19 (by decide) ?_
  refine lv_if_ne (tgt := 32) hx hb dX3_edge_20 (by decide) (fun c9 => ?_) (fun c9 => ?_)
  · refine lv_pc (q := 32) rfl ?_
    refine lv_aload_n hx hb dX3_edge_32 rfl (lv_at hl 1 rfl) ?_
    refine uGet (ci := 3) (C := RX3) (T := TX3) (N := 10) (v := .ref a_N_greatest) B inlX3 hP 0 rfl rfl 5 rfl mfl_X3_28 rfl rfl dX3_edge_33 ?_
    refine lv_iload_n hx hb dX3_edge_36 rfl (lv_at hl 0 rfl) ?_
    refine uIald (i := (nI a8)) (j := a8) B hP 2 rfl (nI_in (by omega) (by omega)) (nI_clamp (by omega)) dX3_edge_37 ?_
    exact uRi () B trivial (uSub hP [0, 1, 2] rfl) (hD.sub [0, 1, 2] rfl rfl) hS dX3_edge_38
  refine lv_pc (q := 23) rfl ?_
  refine lv_aload_n hx hb dX3_edge_23 rfl (lv_at hl 1 rfl) ?_
  refine uGet (ci := 3) (C := RX3) (T := TX3) (N := 10) (v := .ref a_N_least) B inlX3 hP 0 rfl rfl 4 rfl mfl_X3_25 rfl rfl dX3_edge_24 ?_
  refine lv_iload_n hx hb dX3_edge_27 rfl (lv_at hl 0 rfl) ?_
  refine uIald (i := (nI a8)) (j := a8) B hP 1 rfl (nI_in (by omega) (by omega)) (nI_clamp (by omega)) dX3_edge_28 ?_
  refine lv_goto (tgt := 38) hx hb dX3_edge_29 (by decide) ?_
  exact uRi () B trivial (uSub hP [0, 1, 2] rfl) (hD.sub [0, 1, 2] rfl rfl) hS dX3_edge_38
def qwX3_firstQuarrel (a_N : Nat) (v_N_size : Nat) (v_N_drawnFor : Int32) (v_N_agree : Int32) (v_N_quietUpTo : Nat) (a_N_sorts : Nat) (f_N_sorts : Nat → Int32) (a_N_firsts : Nat) (f_N_firsts : Nat → Int32) (a_N_seconds : Nat) (f_N_seconds : Nat → Int32) (a_N_struck : Nat) (f_N_struck : Nat → Int32) (a_N_least : Nat) (f_N_least : Nat → Int32) (a_N_greatest : Nat) (f_N_greatest : Nat → Int32) : Int32 → (Int32 × Int32 × Nat × (Nat → Int32) × (Nat → Int32) × (Nat → Int32)) → Prop := (fun (r : Int32) (u : Int32 × Int32 × Nat × (Nat → Int32) × (Nat → Int32) × (Nat → Int32)) => (u.2.1 = 0 ∨ u.2.1 = 1) ∧ (u.2.2.1 ≤ 60) ∧ (∀ k, u.2.2.2.1 k = 0 ∨ u.2.2.2.1 k = 1))
def vwX3_firstQuarrel (K : Nat → ClassId) (a_N : Nat) (v_N_size : Nat) (v_N_drawnFor : Int32) (v_N_agree : Int32) (v_N_quietUpTo : Nat) (a_N_sorts : Nat) (f_N_sorts : Nat → Int32) (a_N_firsts : Nat) (f_N_firsts : Nat → Int32) (a_N_seconds : Nat) (f_N_seconds : Nat → Int32) (a_N_struck : Nat) (f_N_struck : Nat → Int32) (a_N_least : Nat) (f_N_least : Nat → Int32) (a_N_greatest : Nat) (f_N_greatest : Nat → Int32) : (Int32 × Int32 × Nat × (Nat → Int32) × (Nat → Int32) × (Nat → Int32)) → va_W := (fun (u : Int32 × Int32 × Nat × (Nat → Int32) × (Nat → Int32) × (Nat → Int32)) => [(a_N, .inr (3, [.ref a_N_sorts, .ref a_N_firsts, .ref a_N_seconds, .ref a_N_struck, .ref a_N_least, .ref a_N_greatest, .int (nI v_N_size), .int u.1, .int u.2.1, .int (nI ((u.2.2.1)))])), (a_N_sorts, .inl (K 0, 60, .inl f_N_sorts)), (a_N_firsts, .inl (K 0, 60, .inl f_N_firsts)), (a_N_seconds, .inl (K 0, 60, .inl f_N_seconds)), (a_N_struck, .inl (K 1, 60, .inl (u.2.2.2.1))), (a_N_least, .inl (K 0, 24, .inl (u.2.2.2.2.1))), (a_N_greatest, .inl (K 0, 24, .inl (u.2.2.2.2.2)))])
set_option maxHeartbeats 4000000 in
set_option maxRecDepth 100000 in
theorem wX3_firstQuarrel (l : Launch) (D : va_G) (K : Nat → ClassId) (sz : Nat) (a_N : Nat) (v_N_size : Nat) (v_N_drawnFor : Int32) (v_N_agree : Int32) (v_N_quietUpTo : Nat) (a_N_sorts : Nat) (f_N_sorts : Nat → Int32) (a_N_firsts : Nat) (f_N_firsts : Nat → Int32) (a_N_seconds : Nat) (f_N_seconds : Nat → Int32) (a_N_struck : Nat) (f_N_struck : Nat → Int32) (a_N_least : Nat) (f_N_least : Nat → Int32) (a_N_greatest : Nat) (f_N_greatest : Nat → Int32) (hv_N_size : v_N_size ≤ 60) (hv_N_agree : v_N_agree = 0 ∨ v_N_agree = 1) (hv_N_quietUpTo : v_N_quietUpTo ≤ 60) (r_N_sorts : uRg f_N_sorts 0 6) (r_N_firsts : uRg f_N_firsts 0 59) (r_N_seconds : uRg f_N_seconds 0 500) (b_N_struck : ∀ k, f_N_struck k = 0 ∨ f_N_struck k = 1) (i_uNt : uNt f_N_sorts f_N_firsts f_N_seconds) : uMi l yX3_firstQuarrel cX3_firstQuarrel 2 (some .int) { frames := 5, cells := 0, slots := 0, locals := 106 } [.ref a_N] D K [(a_N, .inr (3, [.ref a_N_sorts, .ref a_N_firsts, .ref a_N_seconds, .ref a_N_struck, .ref a_N_least, .ref a_N_greatest, .int (nI v_N_size), .int v_N_drawnFor, .int v_N_agree, .int (nI v_N_quietUpTo)])), (a_N_sorts, .inl (K 0, 60, .inl f_N_sorts)), (a_N_firsts, .inl (K 0, 60, .inl f_N_firsts)), (a_N_seconds, .inl (K 0, 60, .inl f_N_seconds)), (a_N_struck, .inl (K 1, 60, .inl f_N_struck)), (a_N_least, .inl (K 0, 24, .inl f_N_least)), (a_N_greatest, .inl (K 0, 24, .inl f_N_greatest))] sz (qwX3_firstQuarrel a_N v_N_size v_N_drawnFor v_N_agree v_N_quietUpTo a_N_sorts f_N_sorts a_N_firsts f_N_firsts a_N_seconds f_N_seconds a_N_struck f_N_struck a_N_least f_N_least a_N_greatest f_N_greatest) (vwX3_firstQuarrel K a_N v_N_size v_N_drawnFor v_N_agree v_N_quietUpTo a_N_sorts f_N_sorts a_N_firsts f_N_firsts a_N_seconds f_N_seconds a_N_struck f_N_struck a_N_least f_N_least a_N_greatest f_N_greatest) := by
  refine uMet (Qc := uQi D (qwX3_firstQuarrel a_N v_N_size v_N_drawnFor v_N_agree v_N_quietUpTo a_N_sorts f_N_sorts a_N_firsts f_N_firsts a_N_seconds f_N_seconds a_N_struck f_N_struck a_N_least f_N_least a_N_greatest f_N_greatest) (vwX3_firstQuarrel K a_N v_N_size v_N_drawnFor v_N_agree v_N_quietUpTo a_N_sorts f_N_sorts a_N_firsts f_N_firsts a_N_seconds f_N_seconds a_N_struck f_N_struck a_N_least f_N_least a_N_greatest f_N_greatest)) (ret := (some .int)) (by decide) (Nat.le_of_ble_eq_true rfl) ?_
  intro p e s m below meth c A ls hAe hsz B hP hD hS hl
  have hx := B.1
  have hb := B.2.1
  have hl : lv_has ls 2 [(0, .ref a_N)] := hl
  refine lv_aload_n hx hb dX3_firstQuarrel_0 rfl (lv_at hl 0 rfl) ?_
  refine uGet (ci := 3) (C := RX3) (T := TX3) (N := 10) (v := .int (nI v_N_quietUpTo)) B inlX3 hP 0 rfl rfl 9 rfl mfl_X3_42 rfl rfl dX3_firstQuarrel_1 ?_
  refine lv_iconst (v := 1) hx hb dX3_firstQuarrel_4 (by decide) ?_
  refine lv_iadd hx hb dX3_firstQuarrel_5 ?_
  refine lv_fixi (y := (nI (v_N_quietUpTo + 1))) (by rw [show (1 : Int32) = nI 1 from rfl, nI_add]) ?_
  refine lv_istore_n (lv' := [(1, .int (nI (v_N_quietUpTo + 1))), (0, .ref a_N)]) hx hb dX3_firstQuarrel_6 rfl hl (by decide) rfl (fun ls hl => ?_)
  have L9 : ∀ (n9 : Nat) (j1 : Nat) (f2 : Nat → Int32) (f3 : Nat → Int32) (f4 : Nat → Int32) (y5 : Int32) (y6 : Int32) (y7 : Nat), (j1 ≤ 61) → (∀ k, f4 k = 0 ∨ f4 k = 1) → (y6 = 0 ∨ y6 = 1) → (y7 ≤ 60) → 61 - j1 < n9 → ∀ (H : Heap) (locs : List Loc) (ls : Array Slot), va_P D vwCl [(a_N, .inr (3, [.ref a_N_sorts, .ref a_N_firsts, .ref a_N_seconds, .ref a_N_struck, .ref a_N_least, .ref a_N_greatest, .int (nI v_N_size), .int y5, .int y6, .int (nI y7)])), (a_N_sorts, .inl (K 0, 60, .inl f_N_sorts)), (a_N_firsts, .inl (K 0, 60, .inl f_N_firsts)), (a_N_seconds, .inl (K 0, 60, .inl f_N_seconds)), (a_N_struck, .inl (K 1, 60, .inl f4)), (a_N_least, .inl (K 0, 24, .inl f2)), (a_N_greatest, .inl (K 0, 24, .inl f3))] H → va_D A [(a_N, .inr (3, [.ref a_N_sorts, .ref a_N_firsts, .ref a_N_seconds, .ref a_N_struck, .ref a_N_least, .ref a_N_greatest, .int (nI v_N_size), .int y5, .int y6, .int (nI y7)])), (a_N_sorts, .inl (K 0, 60, .inl f_N_sorts)), (a_N_firsts, .inl (K 0, 60, .inl f_N_firsts)), (a_N_seconds, .inl (K 0, 60, .inl f_N_seconds)), (a_N_struck, .inl (K 1, 60, .inl f4)), (a_N_least, .inl (K 0, 24, .inl f2)), (a_N_greatest, .inl (K 0, 24, .inl f3))] → va_S A s.heap H locs → lv_has ls 2 [(1, .int (nI j1)), (0, .ref a_N)] → W p l e { frames := 5, cells := 0, slots := 0, locals := 106 } s m ([.ref a_N] : List Value).toArray below meth c H locs 0 0 (MQ below (uQi D (qwX3_firstQuarrel a_N v_N_size v_N_drawnFor v_N_agree v_N_quietUpTo a_N_sorts f_N_sorts a_N_firsts f_N_firsts a_N_seconds f_N_seconds a_N_struck f_N_struck a_N_least f_N_least a_N_greatest f_N_greatest) (vwX3_firstQuarrel K a_N v_N_size v_N_drawnFor v_N_agree v_N_quietUpTo a_N_sorts f_N_sorts a_N_firsts f_N_firsts a_N_seconds f_N_seconds a_N_struck f_N_struck a_N_least f_N_least a_N_greatest f_N_greatest) A) ([.ref a_N] : List Value).toArray s 0 0 A) (F0 m 7 ls []) := by
    intro n9
    induction n9 with
    | zero => intros; exact absurd ‹_ < 0› (Nat.not_lt_zero _)
    | succ n7_ ih7 =>
      intro j1 f2 f3 f4 y5 y6 y7 hj1 bf4 hy6 hy7 hm7 H locs ls hP hD hS hl
      refine lv_pc (q := 7) rfl ?_
      refine lv_iload_n hx hb dX3_firstQuarrel_7 rfl (lv_at hl 0 rfl) ?_
      refine lv_aload_n hx hb dX3_firstQuarrel_8 rfl (lv_at hl 1 rfl) ?_
      refine uGet (ci := 3) (C := RX3) (T := TX3) (N := 10) (v := .int (nI v_N_size)) B inlX3 hP 0 rfl rfl 6 rfl mfl_X3_31 rfl rfl dX3_firstQuarrel_9 ?_
      refine lv_icmp_gt (tgt := 36) hx hb dX3_firstQuarrel_12 (by decide) (fun c10 => ?_) (fun c10 => ?_)
      · have k_10 : v_N_size < j1 := (nI_ltI (a := v_N_size) (b := j1) (by omega) (by omega)).mp c10
        refine lv_iconst (v := (-1)) hx hb dX3_firstQuarrel_36 (by decide) ?_
        exact uRi (y5, y6, y7, f4, f2, f3) B ⟨hy6, (by (try dsimp only); omega), bf4⟩ (uSub hP [0, 1, 2, 3, 4, 5, 6] rfl) (hD.sub [0, 1, 2, 3, 4, 5, 6] rfl rfl) hS dX3_firstQuarrel_37
      have k_10 : ¬ v_N_size < j1 := fun h9 => c10 ((nI_ltI (a := v_N_size) (b := j1) (by omega) (by omega)).mpr h9)
      refine lv_aload_n hx hb dX3_firstQuarrel_15 rfl (lv_at hl 1 rfl) ?_
      refine lv_iload_n hx hb dX3_firstQuarrel_16 rfl (lv_at hl 0 rfl) ?_
      refine lv_pc (q := 17) rfl ?_
      refine uViJ (As := [.int (nI j1)]) (rest := []) (wr := []) (wX3_draw l D K _ a_N v_N_size y5 y6 y7 a_N_sorts f_N_sorts a_N_firsts f_N_firsts a_N_seconds f_N_seconds a_N_struck f4 a_N_least f2 a_N_greatest f3 j1 (by omega) hy6 (by omega) r_N_sorts r_N_firsts r_N_seconds bf4 (by omega) i_uNt) B hl.1 hP hD hS [0, 1, 2, 3, 4, 5, 6] [] rfl rfl rfl wd_X3_draw mml_X3_93 rfl rfl rfl rfl ⟨Nat.le_of_ble_eq_true rfl, Nat.le_of_ble_eq_true rfl⟩ (Nat.le_of_ble_eq_true rfl) ⟨Nat.le_of_ble_eq_true rfl, Nat.le_of_ble_eq_true rfl⟩ dX3_firstQuarrel_17 (fun r11 u H locs hw hP hD hS => ?_)
      obtain ⟨u12, u13, u14, u15, u16⟩ := u
      try dsimp only at hw
      obtain ⟨w19, w17, w18⟩ := hw
      have hP : va_P D vwCl [(a_N, .inr (3, [.ref a_N_sorts, .ref a_N_firsts, .ref a_N_seconds, .ref a_N_struck, .ref a_N_least, .ref a_N_greatest, .int (nI v_N_size), .int u12, .int u13, .int (nI y7)])), (a_N_sorts, .inl (K 0, 60, .inl f_N_sorts)), (a_N_firsts, .inl (K 0, 60, .inl f_N_firsts)), (a_N_seconds, .inl (K 0, 60, .inl f_N_seconds)), (a_N_struck, .inl (K 1, 60, .inl u14)), (a_N_least, .inl (K 0, 24, .inl u15)), (a_N_greatest, .inl (K 0, 24, .inl u16))] H := hP
      have hD := uDPJ hP hD
      refine lv_if_ne (tgt := 25) hx hb dX3_firstQuarrel_20 (by decide) (fun c20 => ?_) (fun c20 => ?_)
      · refine lv_aload_n hx hb dX3_firstQuarrel_25 rfl (lv_at hl 1 rfl) ?_
        refine lv_iload_n hx hb dX3_firstQuarrel_26 rfl (lv_at hl 0 rfl) ?_
        refine uPut (ci := 3) (C := RX3) (T := TX3) (N := 10) (ws' := [(a_N, .inr (3, [.ref a_N_sorts, .ref a_N_firsts, .ref a_N_seconds, .ref a_N_struck, .ref a_N_least, .ref a_N_greatest, .int (nI v_N_size), .int u12, .int u13, .int (nI j1)])), (a_N_sorts, .inl (K 0, 60, .inl f_N_sorts)), (a_N_firsts, .inl (K 0, 60, .inl f_N_firsts)), (a_N_seconds, .inl (K 0, 60, .inl f_N_seconds)), (a_N_struck, .inl (K 1, 60, .inl u14)), (a_N_least, .inl (K 0, 24, .inl u15)), (a_N_greatest, .inl (K 0, 24, .inl u16))]) B inlX3 tyX3_ok nmX3 hP hD hS 0 rfl rfl 9 rfl mfl_X3_42 rfl rfl rfl rfl rfl rfl dX3_firstQuarrel_27 (fun H locs hP hD hS => ?_)
        refine lv_iinc (v := nI (j1 + 1)) (lv' := [(1, .int (nI (j1 + 1))), (0, .ref a_N)]) hx hb dX3_firstQuarrel_30 hl (k := 0) rfl (nI_1 _) (by decide) rfl (fun ls hl => ?_)
        refine lv_pc (q := 33) rfl ?_
        refine lv_goto (tgt := 7) hx hb dX3_firstQuarrel_33 (by decide) ?_
        refine lv_pc (q := 7) rfl ?_
        refine W.widen (k := 0) (n := 0) (Nat.le_of_ble_eq_true rfl) (Nat.le_of_ble_eq_true rfl) ?_
        exact ih7 (j1 + 1) u15 u16 u14 u12 u13 j1 (by omega) w18 w17 (by omega) (by omega) _ _ _ (uSub hP [0, 1, 2, 3, 4, 5, 6] rfl) (hD.sub [0, 1, 2, 3, 4, 5, 6] rfl rfl) hS (lv_sub hl [0, 1] rfl)
      refine lv_iload_n hx hb dX3_firstQuarrel_23 rfl (lv_at hl 0 rfl) ?_
      exact uRi (u12, u13, y7, u14, u15, u16) B ⟨w17, (by (try dsimp only); omega), w18⟩ (uSub hP [0, 1, 2, 3, 4, 5, 6] rfl) (hD.sub [0, 1, 2, 3, 4, 5, 6] rfl rfl) hS dX3_firstQuarrel_24
  refine lv_pc (q := 7) rfl ?_
  refine W.widen (k := 0) (n := 0) (Nat.le_of_ble_eq_true rfl) (Nat.le_of_ble_eq_true rfl) ?_
  exact L9 ((61 - (v_N_quietUpTo + 1)) + 1) (v_N_quietUpTo + 1) f_N_least f_N_greatest f_N_struck v_N_drawnFor v_N_agree v_N_quietUpTo (by omega) b_N_struck hv_N_agree (by omega) (Nat.lt_succ_self _) _ _ _ hP hD hS hl
def qwX3_standing (a_N : Nat) (v_N_size : Nat) (v_N_drawnFor : Int32) (v_N_agree : Int32) (v_N_quietUpTo : Nat) (a_N_least : Nat) (f_N_least : Nat → Int32) (a_N_greatest : Nat) (f_N_greatest : Nat → Int32) (a_N_sorts : Nat) (a_N_firsts : Nat) (a_N_seconds : Nat) (a_N_struck : Nat) (x0 : Nat) (x1 : Int32) : Int32 → (Unit) → Prop := (fun (r : Int32) (u : Unit) => True)
def vwX3_standing (K : Nat → ClassId) (a_N : Nat) (v_N_size : Nat) (v_N_drawnFor : Int32) (v_N_agree : Int32) (v_N_quietUpTo : Nat) (a_N_least : Nat) (f_N_least : Nat → Int32) (a_N_greatest : Nat) (f_N_greatest : Nat → Int32) (a_N_sorts : Nat) (a_N_firsts : Nat) (a_N_seconds : Nat) (a_N_struck : Nat) (x0 : Nat) (x1 : Int32) : (Unit) → va_W := (fun (u : Unit) => [(a_N, .inr (3, [.ref a_N_sorts, .ref a_N_firsts, .ref a_N_seconds, .ref a_N_struck, .ref a_N_least, .ref a_N_greatest, .int (nI v_N_size), .int v_N_drawnFor, .int v_N_agree, .int (nI v_N_quietUpTo)])), (a_N_least, .inl (K 0, 24, .inl f_N_least)), (a_N_greatest, .inl (K 0, 24, .inl f_N_greatest))])
set_option maxHeartbeats 4000000 in
set_option maxRecDepth 100000 in
theorem wX3_standing (l : Launch) (D : va_G) (K : Nat → ClassId) (sz : Nat) (a_N : Nat) (v_N_size : Nat) (v_N_drawnFor : Int32) (v_N_agree : Int32) (v_N_quietUpTo : Nat) (a_N_least : Nat) (f_N_least : Nat → Int32) (a_N_greatest : Nat) (f_N_greatest : Nat → Int32) (a_N_sorts : Nat) (a_N_firsts : Nat) (a_N_seconds : Nat) (a_N_struck : Nat) (x0 : Nat) (x1 : Int32) (hv_N_size : v_N_size ≤ 60) (hv_N_agree : v_N_agree = 0 ∨ v_N_agree = 1) (hv_N_quietUpTo : v_N_quietUpTo ≤ 60) (hx0 : x0 < 12) : uMi l yX3_standing cX3_standing 3 (some .int) { frames := 1, cells := 0, slots := 0, locals := 20 } [.ref a_N, .int (nI x0), .int x1] D K [(a_N, .inr (3, [.ref a_N_sorts, .ref a_N_firsts, .ref a_N_seconds, .ref a_N_struck, .ref a_N_least, .ref a_N_greatest, .int (nI v_N_size), .int v_N_drawnFor, .int v_N_agree, .int (nI v_N_quietUpTo)])), (a_N_least, .inl (K 0, 24, .inl f_N_least)), (a_N_greatest, .inl (K 0, 24, .inl f_N_greatest))] sz (qwX3_standing a_N v_N_size v_N_drawnFor v_N_agree v_N_quietUpTo a_N_least f_N_least a_N_greatest f_N_greatest a_N_sorts a_N_firsts a_N_seconds a_N_struck x0 x1) (vwX3_standing K a_N v_N_size v_N_drawnFor v_N_agree v_N_quietUpTo a_N_least f_N_least a_N_greatest f_N_greatest a_N_sorts a_N_firsts a_N_seconds a_N_struck x0 x1) := by
  refine uMet (Qc := uQi D (qwX3_standing a_N v_N_size v_N_drawnFor v_N_agree v_N_quietUpTo a_N_least f_N_least a_N_greatest f_N_greatest a_N_sorts a_N_firsts a_N_seconds a_N_struck x0 x1) (vwX3_standing K a_N v_N_size v_N_drawnFor v_N_agree v_N_quietUpTo a_N_least f_N_least a_N_greatest f_N_greatest a_N_sorts a_N_firsts a_N_seconds a_N_struck x0 x1)) (ret := (some .int)) (by decide) (Nat.le_of_ble_eq_true rfl) ?_
  intro p e s m below meth c A ls hAe hsz B hP hD hS hl
  have hx := B.1
  have hb := B.2.1
  have hl : lv_has ls 3 [(0, .ref a_N), (1, .int (nI x0)), (2, .int x1)] := hl
  refine lv_aload_n hx hb dX3_standing_0 rfl (lv_at hl 0 rfl) ?_
  refine uGet (ci := 3) (C := RX3) (T := TX3) (N := 10) (v := .int v_N_agree) B inlX3 hP 0 rfl rfl 8 rfl mfl_X3_38 rfl rfl dX3_standing_1 ?_
  refine lv_if_ne (tgt := 9) hx hb dX3_standing_4 (by decide) (fun c1 => ?_) (fun c1 => ?_)
  · refine lv_aload_n hx hb dX3_standing_9 rfl (lv_at hl 0 rfl) ?_
    refine uGet (ci := 3) (C := RX3) (T := TX3) (N := 10) (v := .ref a_N_greatest) B inlX3 hP 0 rfl rfl 5 rfl mfl_X3_28 rfl rfl dX3_standing_10 ?_
    refine lv_pc (q := 13) rfl ?_
    refine lv_iload_n hx hb dX3_standing_13 rfl (lv_at hl 1 rfl) ?_
    refine uSi (As := [.int (nI x0)]) (rest := [.ref a_N_greatest]) (wr := [(a_N, .inr (3, [.ref a_N_sorts, .ref a_N_firsts, .ref a_N_seconds, .ref a_N_struck, .ref a_N_least, .ref a_N_greatest, .int (nI v_N_size), .int v_N_drawnFor, .int v_N_agree, .int (nI v_N_quietUpTo)])), (a_N_least, .inl (K 0, 24, .inl f_N_least)), (a_N_greatest, .inl (K 0, 24, .inl f_N_greatest))]) [] B hl.1 hP hD hS [] [0, 1, 2] rfl rfl rfl (wX3_begin l D K _ x0 (by omega)) wd_X3_begin mml_X3_66 rfl rfl ⟨Nat.le_of_ble_eq_true rfl, Nat.le_of_ble_eq_true rfl⟩ (Nat.le_of_ble_eq_true rfl) ⟨Nat.le_of_ble_eq_true rfl, Nat.le_of_ble_eq_true rfl⟩ dX3_standing_14 (fun r2 u H locs hw hP hD hS => ?_)
    try dsimp only at hw
    have w3 := hw
    have hP : va_P D vwCl [(a_N, .inr (3, [.ref a_N_sorts, .ref a_N_firsts, .ref a_N_seconds, .ref a_N_struck, .ref a_N_least, .ref a_N_greatest, .int (nI v_N_size), .int v_N_drawnFor, .int v_N_agree, .int (nI v_N_quietUpTo)])), (a_N_least, .inl (K 0, 24, .inl f_N_least)), (a_N_greatest, .inl (K 0, 24, .inl f_N_greatest))] H := hP
    have hD := uDPJ hP hD
    obtain ⟨a4, ha4, ea4⟩ := w3
    refine lv_fixi (y := (nI a4)) ea4 ?_
    refine uIald (i := (nI a4)) (j := a4) B hP 2 rfl (nI_in (by omega) (by omega)) (nI_clamp (by omega)) dX3_standing_17 ?_
    refine lv_iload_n hx hb dX3_standing_18 rfl (lv_at hl 2 rfl) ?_
    refine lv_icmp_gt (tgt := 37) hx hb dX3_standing_19 (by decide) (fun c5 => ?_) (fun c5 => ?_)
    · refine lv_aload_n hx hb dX3_standing_37 rfl (lv_at hl 0 rfl) ?_
      refine lv_pc (q := 38) rfl ?_
      refine uGet (ci := 3) (C := RX3) (T := TX3) (N := 10) (v := .ref a_N_least) B inlX3 hP 0 rfl rfl 4 rfl mfl_X3_25 rfl rfl dX3_standing_38 ?_
      refine lv_iload_n hx hb dX3_standing_41 rfl (lv_at hl 1 rfl) ?_
      refine uSi (As := [.int (nI x0)]) (rest := [.ref a_N_least]) (wr := [(a_N, .inr (3, [.ref a_N_sorts, .ref a_N_firsts, .ref a_N_seconds, .ref a_N_struck, .ref a_N_least, .ref a_N_greatest, .int (nI v_N_size), .int v_N_drawnFor, .int v_N_agree, .int (nI v_N_quietUpTo)])), (a_N_least, .inl (K 0, 24, .inl f_N_least)), (a_N_greatest, .inl (K 0, 24, .inl f_N_greatest))]) [] B hl.1 hP hD hS [] [0, 1, 2] rfl rfl rfl (wX3_begin l D K _ x0 (by omega)) wd_X3_begin mml_X3_66 rfl rfl ⟨Nat.le_of_ble_eq_true rfl, Nat.le_of_ble_eq_true rfl⟩ (Nat.le_of_ble_eq_true rfl) ⟨Nat.le_of_ble_eq_true rfl, Nat.le_of_ble_eq_true rfl⟩ dX3_standing_42 (fun r6 u H locs hw hP hD hS => ?_)
      try dsimp only at hw
      have w7 := hw
      have hP : va_P D vwCl [(a_N, .inr (3, [.ref a_N_sorts, .ref a_N_firsts, .ref a_N_seconds, .ref a_N_struck, .ref a_N_least, .ref a_N_greatest, .int (nI v_N_size), .int v_N_drawnFor, .int v_N_agree, .int (nI v_N_quietUpTo)])), (a_N_least, .inl (K 0, 24, .inl f_N_least)), (a_N_greatest, .inl (K 0, 24, .inl f_N_greatest))] H := hP
      have hD := uDPJ hP hD
      obtain ⟨a8, ha8, ea8⟩ := w7
      refine lv_fixi (y := (nI a8)) ea8 ?_
      refine uIald (i := (nI a8)) (j := a8) B hP 1 rfl (nI_in (by omega) (by omega)) (nI_clamp (by omega)) dX3_standing_45 ?_
      refine lv_iload_n hx hb dX3_standing_46 rfl (lv_at hl 2 rfl) ?_
      refine lv_icmp_gt (tgt := 67) hx hb dX3_standing_47 (by decide) (fun c9 => ?_) (fun c9 => ?_)
      · refine lv_pc (q := 67) rfl ?_
        refine lv_iconst (v := 0) hx hb dX3_standing_67 (by decide) ?_
        exact uRi () B trivial (uSub hP [0, 1, 2] rfl) (hD.sub [0, 1, 2] rfl rfl) hS dX3_standing_68
      refine lv_pc (q := 50) rfl ?_
      refine lv_aload_n hx hb dX3_standing_50 rfl (lv_at hl 0 rfl) ?_
      refine uGet (ci := 3) (C := RX3) (T := TX3) (N := 10) (v := .ref a_N_greatest) B inlX3 hP 0 rfl rfl 5 rfl mfl_X3_28 rfl rfl dX3_standing_51 ?_
      refine lv_iload_n hx hb dX3_standing_54 rfl (lv_at hl 1 rfl) ?_
      refine uSi (As := [.int (nI x0)]) (rest := [.ref a_N_greatest]) (wr := [(a_N, .inr (3, [.ref a_N_sorts, .ref a_N_firsts, .ref a_N_seconds, .ref a_N_struck, .ref a_N_least, .ref a_N_greatest, .int (nI v_N_size), .int v_N_drawnFor, .int v_N_agree, .int (nI v_N_quietUpTo)])), (a_N_least, .inl (K 0, 24, .inl f_N_least)), (a_N_greatest, .inl (K 0, 24, .inl f_N_greatest))]) [] B hl.1 hP hD hS [] [0, 1, 2] rfl rfl rfl (wX3_end l D K _ x0 (by omega)) wd_X3_end mml_X3_74 rfl rfl ⟨Nat.le_of_ble_eq_true rfl, Nat.le_of_ble_eq_true rfl⟩ (Nat.le_of_ble_eq_true rfl) ⟨Nat.le_of_ble_eq_true rfl, Nat.le_of_ble_eq_true rfl⟩ dX3_standing_55 (fun r10 u H locs hw hP hD hS => ?_)
      try dsimp only at hw
      have w11 := hw
      have hP : va_P D vwCl [(a_N, .inr (3, [.ref a_N_sorts, .ref a_N_firsts, .ref a_N_seconds, .ref a_N_struck, .ref a_N_least, .ref a_N_greatest, .int (nI v_N_size), .int v_N_drawnFor, .int v_N_agree, .int (nI v_N_quietUpTo)])), (a_N_least, .inl (K 0, 24, .inl f_N_least)), (a_N_greatest, .inl (K 0, 24, .inl f_N_greatest))] H := hP
      have hD := uDPJ hP hD
      obtain ⟨a12, ha12, ea12⟩ := w11
      refine lv_fixi (y := (nI a12)) ea12 ?_
      refine uIald (i := (nI a12)) (j := a12) B hP 2 rfl (nI_in (by omega) (by omega)) (nI_clamp (by omega)) dX3_standing_58 ?_
      refine lv_iload_n hx hb dX3_standing_59 rfl (lv_at hl 2 rfl) ?_
      refine lv_pc (q := 60) rfl ?_
      refine lv_icmp_lt (tgt := 67) hx hb dX3_standing_60 (by decide) (fun c13 => ?_) (fun c13 => ?_)
      · refine lv_iconst (v := 0) hx hb dX3_standing_67 (by decide) ?_
        exact uRi () B trivial (uSub hP [0, 1, 2] rfl) (hD.sub [0, 1, 2] rfl rfl) hS dX3_standing_68
      refine lv_iconst (v := 1) hx hb dX3_standing_63 (by decide) ?_
      refine lv_goto (tgt := 68) hx hb dX3_standing_64 (by decide) ?_
      exact uRi () B trivial (uSub hP [0, 1, 2] rfl) (hD.sub [0, 1, 2] rfl rfl) hS dX3_standing_68
    refine lv_aload_n hx hb dX3_standing_22 rfl (lv_at hl 0 rfl) ?_
    refine lv_pc (q := 23) rfl ?_
    refine uGet (ci := 3) (C := RX3) (T := TX3) (N := 10) (v := .ref a_N_least) B inlX3 hP 0 rfl rfl 4 rfl mfl_X3_25 rfl rfl dX3_standing_23 ?_
    refine lv_iload_n hx hb dX3_standing_26 rfl (lv_at hl 1 rfl) ?_
    refine uSi (As := [.int (nI x0)]) (rest := [.ref a_N_least]) (wr := [(a_N, .inr (3, [.ref a_N_sorts, .ref a_N_firsts, .ref a_N_seconds, .ref a_N_struck, .ref a_N_least, .ref a_N_greatest, .int (nI v_N_size), .int v_N_drawnFor, .int v_N_agree, .int (nI v_N_quietUpTo)])), (a_N_least, .inl (K 0, 24, .inl f_N_least)), (a_N_greatest, .inl (K 0, 24, .inl f_N_greatest))]) [] B hl.1 hP hD hS [] [0, 1, 2] rfl rfl rfl (wX3_end l D K _ x0 (by omega)) wd_X3_end mml_X3_74 rfl rfl ⟨Nat.le_of_ble_eq_true rfl, Nat.le_of_ble_eq_true rfl⟩ (Nat.le_of_ble_eq_true rfl) ⟨Nat.le_of_ble_eq_true rfl, Nat.le_of_ble_eq_true rfl⟩ dX3_standing_27 (fun r14 u H locs hw hP hD hS => ?_)
    try dsimp only at hw
    have w15 := hw
    have hP : va_P D vwCl [(a_N, .inr (3, [.ref a_N_sorts, .ref a_N_firsts, .ref a_N_seconds, .ref a_N_struck, .ref a_N_least, .ref a_N_greatest, .int (nI v_N_size), .int v_N_drawnFor, .int v_N_agree, .int (nI v_N_quietUpTo)])), (a_N_least, .inl (K 0, 24, .inl f_N_least)), (a_N_greatest, .inl (K 0, 24, .inl f_N_greatest))] H := hP
    have hD := uDPJ hP hD
    obtain ⟨a16, ha16, ea16⟩ := w15
    refine lv_fixi (y := (nI a16)) ea16 ?_
    refine uIald (i := (nI a16)) (j := a16) B hP 1 rfl (nI_in (by omega) (by omega)) (nI_clamp (by omega)) dX3_standing_30 ?_
    refine lv_iload_n hx hb dX3_standing_31 rfl (lv_at hl 2 rfl) ?_
    refine lv_icmp_lt (tgt := 37) hx hb dX3_standing_32 (by decide) (fun c17 => ?_) (fun c17 => ?_)
    · refine lv_pc (q := 37) rfl ?_
      refine lv_aload_n hx hb dX3_standing_37 rfl (lv_at hl 0 rfl) ?_
      refine uGet (ci := 3) (C := RX3) (T := TX3) (N := 10) (v := .ref a_N_least) B inlX3 hP 0 rfl rfl 4 rfl mfl_X3_25 rfl rfl dX3_standing_38 ?_
      refine lv_iload_n hx hb dX3_standing_41 rfl (lv_at hl 1 rfl) ?_
      refine uSi (As := [.int (nI x0)]) (rest := [.ref a_N_least]) (wr := [(a_N, .inr (3, [.ref a_N_sorts, .ref a_N_firsts, .ref a_N_seconds, .ref a_N_struck, .ref a_N_least, .ref a_N_greatest, .int (nI v_N_size), .int v_N_drawnFor, .int v_N_agree, .int (nI v_N_quietUpTo)])), (a_N_least, .inl (K 0, 24, .inl f_N_least)), (a_N_greatest, .inl (K 0, 24, .inl f_N_greatest))]) [] B hl.1 hP hD hS [] [0, 1, 2] rfl rfl rfl (wX3_begin l D K _ x0 (by omega)) wd_X3_begin mml_X3_66 rfl rfl ⟨Nat.le_of_ble_eq_true rfl, Nat.le_of_ble_eq_true rfl⟩ (Nat.le_of_ble_eq_true rfl) ⟨Nat.le_of_ble_eq_true rfl, Nat.le_of_ble_eq_true rfl⟩ dX3_standing_42 (fun r18 u H locs hw hP hD hS => ?_)
      try dsimp only at hw
      have w19 := hw
      have hP : va_P D vwCl [(a_N, .inr (3, [.ref a_N_sorts, .ref a_N_firsts, .ref a_N_seconds, .ref a_N_struck, .ref a_N_least, .ref a_N_greatest, .int (nI v_N_size), .int v_N_drawnFor, .int v_N_agree, .int (nI v_N_quietUpTo)])), (a_N_least, .inl (K 0, 24, .inl f_N_least)), (a_N_greatest, .inl (K 0, 24, .inl f_N_greatest))] H := hP
      have hD := uDPJ hP hD
      obtain ⟨a20, ha20, ea20⟩ := w19
      refine lv_fixi (y := (nI a20)) ea20 ?_
      refine uIald (i := (nI a20)) (j := a20) B hP 1 rfl (nI_in (by omega) (by omega)) (nI_clamp (by omega)) dX3_standing_45 ?_
      refine lv_iload_n hx hb dX3_standing_46 rfl (lv_at hl 2 rfl) ?_
      refine lv_pc (q := 47) rfl ?_
      refine lv_icmp_gt (tgt := 67) hx hb dX3_standing_47 (by decide) (fun c21 => ?_) (fun c21 => ?_)
      · refine lv_iconst (v := 0) hx hb dX3_standing_67 (by decide) ?_
        exact uRi () B trivial (uSub hP [0, 1, 2] rfl) (hD.sub [0, 1, 2] rfl rfl) hS dX3_standing_68
      refine lv_aload_n hx hb dX3_standing_50 rfl (lv_at hl 0 rfl) ?_
      refine uGet (ci := 3) (C := RX3) (T := TX3) (N := 10) (v := .ref a_N_greatest) B inlX3 hP 0 rfl rfl 5 rfl mfl_X3_28 rfl rfl dX3_standing_51 ?_
      refine lv_iload_n hx hb dX3_standing_54 rfl (lv_at hl 1 rfl) ?_
      refine uSi (As := [.int (nI x0)]) (rest := [.ref a_N_greatest]) (wr := [(a_N, .inr (3, [.ref a_N_sorts, .ref a_N_firsts, .ref a_N_seconds, .ref a_N_struck, .ref a_N_least, .ref a_N_greatest, .int (nI v_N_size), .int v_N_drawnFor, .int v_N_agree, .int (nI v_N_quietUpTo)])), (a_N_least, .inl (K 0, 24, .inl f_N_least)), (a_N_greatest, .inl (K 0, 24, .inl f_N_greatest))]) [] B hl.1 hP hD hS [] [0, 1, 2] rfl rfl rfl (wX3_end l D K _ x0 (by omega)) wd_X3_end mml_X3_74 rfl rfl ⟨Nat.le_of_ble_eq_true rfl, Nat.le_of_ble_eq_true rfl⟩ (Nat.le_of_ble_eq_true rfl) ⟨Nat.le_of_ble_eq_true rfl, Nat.le_of_ble_eq_true rfl⟩ dX3_standing_55 (fun r22 u H locs hw hP hD hS => ?_)
      try dsimp only at hw
      have w23 := hw
      have hP : va_P D vwCl [(a_N, .inr (3, [.ref a_N_sorts, .ref a_N_firsts, .ref a_N_seconds, .ref a_N_struck, .ref a_N_least, .ref a_N_greatest, .int (nI v_N_size), .int v_N_drawnFor, .int v_N_agree, .int (nI v_N_quietUpTo)])), (a_N_least, .inl (K 0, 24, .inl f_N_least)), (a_N_greatest, .inl (K 0, 24, .inl f_N_greatest))] H := hP
      have hD := uDPJ hP hD
      obtain ⟨a24, ha24, ea24⟩ := w23
      refine lv_fixi (y := (nI a24)) ea24 ?_
      refine uIald (i := (nI a24)) (j := a24) B hP 2 rfl (nI_in (by omega) (by omega)) (nI_clamp (by omega)) dX3_standing_58 ?_
      refine lv_pc (q := 59) rfl ?_
      refine lv_iload_n hx hb dX3_standing_59 rfl (lv_at hl 2 rfl) ?_
      refine lv_icmp_lt (tgt := 67) hx hb dX3_standing_60 (by decide) (fun c25 => ?_) (fun c25 => ?_)
      · refine lv_iconst (v := 0) hx hb dX3_standing_67 (by decide) ?_
        exact uRi () B trivial (uSub hP [0, 1, 2] rfl) (hD.sub [0, 1, 2] rfl rfl) hS dX3_standing_68
      refine lv_iconst (v := 1) hx hb dX3_standing_63 (by decide) ?_
      refine lv_goto (tgt := 68) hx hb dX3_standing_64 (by decide) ?_
      exact uRi () B trivial (uSub hP [0, 1, 2] rfl) (hD.sub [0, 1, 2] rfl rfl) hS dX3_standing_68
    refine lv_pc (q := 35) rfl ?_
    refine lv_iconst (v := 2) hx hb dX3_standing_35 (by decide) ?_
    exact uRi () B trivial (uSub hP [0, 1, 2] rfl) (hD.sub [0, 1, 2] rfl rfl) hS dX3_standing_36
  refine lv_iconst (v := 0) hx hb dX3_standing_7 (by decide) ?_
  exact uRi () B trivial (uSub hP [0, 1, 2] rfl) (hD.sub [0, 1, 2] rfl rfl) hS dX3_standing_8

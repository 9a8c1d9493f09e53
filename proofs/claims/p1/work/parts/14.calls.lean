def qkX3_handOn_93 (ph0 : Nat) (ph1 : Nat) (ph2 : Nat) (pg3 : Nat) (pg4 : Nat) (pg5 : Nat) (pg6 : Nat) (pf7 : Nat → Int32) (pf8 : Nat → Int32) : Int32 → ((Nat → Int32) × (Nat → Int32)) → Prop := (fun (r : Int32) (u : (Nat → Int32) × (Nat → Int32)) => (r = 0 ∨ r = 1))
def vkX3_handOn_93 (K : Nat → ClassId) (ph0 : Nat) (ph1 : Nat) (ph2 : Nat) (pg3 : Nat) (pg4 : Nat) (pg5 : Nat) (pg6 : Nat) (pf7 : Nat → Int32) (pf8 : Nat → Int32) : ((Nat → Int32) × (Nat → Int32)) → va_W := (fun (u : (Nat → Int32) × (Nat → Int32)) => [(ph0, .inr (3, [.ref pg3, .ref pg4, .ref pg5, .ref pg6, .ref ph1, .ref ph2, .int 0, .int 0, .int 1, .int 0])), (ph1, .inl (K 0, 24, .inl (u.1))), (ph2, .inl (K 0, 24, .inl (u.2)))])
set_option maxHeartbeats 4000000 in
set_option maxRecDepth 100000 in
theorem kX3_handOn_93 (l : Launch) (D : va_G) (K : Nat → ClassId) (sz : Nat) (ph0 : Nat) (ph1 : Nat) (ph2 : Nat) (pg3 : Nat) (pg4 : Nat) (pg5 : Nat) (pg6 : Nat) (pf7 : Nat → Int32) (pf8 : Nat → Int32) : uMi l yX3_handOn cX3_handOn 4 (some .boolean) { frames := 3, cells := 0, slots := 0, locals := 60 } [.ref ph0, .int 0] D K [(ph0, .inr (3, [.ref pg3, .ref pg4, .ref pg5, .ref pg6, .ref ph1, .ref ph2, .int 0, .int 0, .int 1, .int 0])), (ph1, .inl (K 0, 24, .inl pf7)), (ph2, .inl (K 0, 24, .inl pf8))] sz (qkX3_handOn_93 ph0 ph1 ph2 pg3 pg4 pg5 pg6 pf7 pf8) (vkX3_handOn_93 K ph0 ph1 ph2 pg3 pg4 pg5 pg6 pf7 pf8) := by
  refine uMet (Qc := uQi D (qkX3_handOn_93 ph0 ph1 ph2 pg3 pg4 pg5 pg6 pf7 pf8) (vkX3_handOn_93 K ph0 ph1 ph2 pg3 pg4 pg5 pg6 pf7 pf8)) (ret := (some .boolean)) (by decide) (Nat.le_of_ble_eq_true rfl) ?_
  intro p e s m below meth c A ls hAe hsz B hP hD hS hl
  have hx := B.1
  have hb := B.2.1
  have hl : lv_has ls 4 [(0, .ref ph0), (1, .int 0)] := hl
  refine lv_iconst (v := 0) hx hb dX3_handOn_0 (by decide) ?_
  refine lv_istore_n (lv' := [(2, .int 0), (0, .ref ph0), (1, .int 0)]) hx hb dX3_handOn_1 rfl hl (by decide) rfl (fun ls hl => ?_)
  refine lv_iconst (v := 0) hx hb dX3_handOn_2 (by decide) ?_
  refine lv_istore_n (lv' := [(3, .int 0), (2, .int 0), (0, .ref ph0), (1, .int 0)]) hx hb dX3_handOn_3 rfl hl (by decide) rfl (fun ls hl => ?_)
  have L6 : ∀ (n9 : Nat) (j1 : Nat) (f2 : Nat → Int32) (f3 : Nat → Int32) (y4 : Int32), (j1 ≤ 12) → (y4 = 0 ∨ y4 = 1) → 12 - j1 < n9 → ∀ (H : Heap) (locs : List Loc) (ls : Array Slot), va_P D vwCl [(ph0, .inr (3, [.ref pg3, .ref pg4, .ref pg5, .ref pg6, .ref ph1, .ref ph2, .int 0, .int 0, .int 1, .int 0])), (ph1, .inl (K 0, 24, .inl f2)), (ph2, .inl (K 0, 24, .inl f3))] H → va_D A [(ph0, .inr (3, [.ref pg3, .ref pg4, .ref pg5, .ref pg6, .ref ph1, .ref ph2, .int 0, .int 0, .int 1, .int 0])), (ph1, .inl (K 0, 24, .inl f2)), (ph2, .inl (K 0, 24, .inl f3))] → va_S A s.heap H locs → lv_has ls 4 [(3, .int (nI j1)), (2, .int y4), (0, .ref ph0), (1, .int 0)] → W p l e { frames := 3, cells := 0, slots := 0, locals := 60 } s m ([.ref ph0, .int 0] : List Value).toArray below meth c H locs 0 0 (MQ below (uQi D (qkX3_handOn_93 ph0 ph1 ph2 pg3 pg4 pg5 pg6 pf7 pf8) (vkX3_handOn_93 K ph0 ph1 ph2 pg3 pg4 pg5 pg6 pf7 pf8) A) ([.ref ph0, .int 0] : List Value).toArray s 0 0 A) (F0 m 4 ls []) := by
    intro n9
    induction n9 with
    | zero => intros; exact absurd ‹_ < 0› (Nat.not_lt_zero _)
    | succ n4_ ih4 =>
      intro j1 f2 f3 y4 hj1 hB2 hm4 H locs ls hP hD hS hl
      refine lv_iload_n hx hb dX3_handOn_4 rfl (lv_at hl 0 rfl) ?_
      refine lv_pc (q := 5) rfl ?_
      refine lv_bipush (v := 12) hx hb dX3_handOn_5 (by decide) ?_
      refine lv_icmp_ge (tgt := 31) hx hb dX3_handOn_7 (by decide) (fun c7 => ?_) (fun c7 => ?_)
      · have k_7 : 12 ≤ j1 := (nI_leI (a := 12) (b := j1) (by omega) (by omega)).mp c7
        refine lv_iconst (v := 0) hx hb dX3_handOn_31 (by decide) ?_
        refine lv_istore_n (lv' := [(3, .int 0), (2, .int y4), (0, .ref ph0), (1, .int 0)]) hx hb dX3_handOn_32 rfl hl (by decide) rfl (fun ls hl => ?_)
        refine lv_iload_n hx hb dX3_handOn_33 rfl (lv_at hl 0 rfl) ?_
        refine lv_iload_n hx hb dX3_handOn_34 rfl (lv_at hl 3 rfl) ?_
        refine lv_pc (q := 35) rfl ?_
        refine lv_icmp_ge (tgt := 160) hx hb dX3_handOn_35 (by decide) (fun _ => ?_) (fun h9 => absurd (by decide) h9)
        refine lv_iload_n hx hb dX3_handOn_160 rfl (lv_at hl 1 rfl) ?_
        exact uRz (f2, f3) B (uBz hB2) hB2 (uSub hP [0, 1, 2] rfl) (hD.sub [0, 1, 2] rfl rfl) hS dX3_handOn_161
      have k_7 : ¬ 12 ≤ j1 := fun h9 => c7 ((nI_leI (a := 12) (b := j1) (by omega) (by omega)).mpr h9)
      refine lv_iload_n hx hb dX3_handOn_10 rfl (lv_at hl 1 rfl) ?_
      refine lv_aload_n hx hb dX3_handOn_11 rfl (lv_at hl 2 rfl) ?_
      refine lv_iload_n hx hb dX3_handOn_12 rfl (lv_at hl 0 rfl) ?_
      refine uSi (As := [.int (nI j1)]) (rest := [.ref ph0, .int y4]) (wr := [(ph0, .inr (3, [.ref pg3, .ref pg4, .ref pg5, .ref pg6, .ref ph1, .ref ph2, .int 0, .int 0, .int 1, .int 0])), (ph1, .inl (K 0, 24, .inl f2)), (ph2, .inl (K 0, 24, .inl f3))]) [] B hl.1 hP hD hS [] [0, 1, 2] rfl rfl rfl (kX3_begin_88 l D K _ j1 (by omega)) wd_X3_begin mml_X3_66 rfl rfl ⟨Nat.le_of_ble_eq_true rfl, Nat.le_of_ble_eq_true rfl⟩ (Nat.le_of_ble_eq_true rfl) ⟨Nat.le_of_ble_eq_true rfl, Nat.le_of_ble_eq_true rfl⟩ dX3_handOn_13 (fun r8 u H locs hw hP hD hS => ?_)
      try dsimp only at hw
      rcases hw with rfl
      have hP : va_P D vwCl [(ph0, .inr (3, [.ref pg3, .ref pg4, .ref pg5, .ref pg6, .ref ph1, .ref ph2, .int 0, .int 0, .int 1, .int 0])), (ph1, .inl (K 0, 24, .inl f2)), (ph2, .inl (K 0, 24, .inl f3))] H := hP
      have hD : va_D A [(ph0, .inr (3, [.ref pg3, .ref pg4, .ref pg5, .ref pg6, .ref ph1, .ref ph2, .int 0, .int 0, .int 1, .int 0])), (ph1, .inl (K 0, 24, .inl f2)), (ph2, .inl (K 0, 24, .inl f3))] := hD
      refine lv_pc (q := 16) rfl ?_
      refine lv_iload_n hx hb dX3_handOn_16 rfl (lv_at hl 0 rfl) ?_
      refine uSi (As := [.int (nI j1)]) (rest := [.int (nI (2 * j1)), .ref ph0, .int y4]) (wr := [(ph0, .inr (3, [.ref pg3, .ref pg4, .ref pg5, .ref pg6, .ref ph1, .ref ph2, .int 0, .int 0, .int 1, .int 0])), (ph1, .inl (K 0, 24, .inl f2)), (ph2, .inl (K 0, 24, .inl f3))]) [] B hl.1 hP hD hS [] [0, 1, 2] rfl rfl rfl (kX3_end_89 l D K _ j1 (by omega)) wd_X3_end mml_X3_74 rfl rfl ⟨Nat.le_of_ble_eq_true rfl, Nat.le_of_ble_eq_true rfl⟩ (Nat.le_of_ble_eq_true rfl) ⟨Nat.le_of_ble_eq_true rfl, Nat.le_of_ble_eq_true rfl⟩ dX3_handOn_17 (fun r9 u H locs hw hP hD hS => ?_)
      try dsimp only at hw
      rcases hw with rfl
      have hP : va_P D vwCl [(ph0, .inr (3, [.ref pg3, .ref pg4, .ref pg5, .ref pg6, .ref ph1, .ref ph2, .int 0, .int 0, .int 1, .int 0])), (ph1, .inl (K 0, 24, .inl f2)), (ph2, .inl (K 0, 24, .inl f3))] H := hP
      have hD : va_D A [(ph0, .inr (3, [.ref pg3, .ref pg4, .ref pg5, .ref pg6, .ref ph1, .ref ph2, .int 0, .int 0, .int 1, .int 0])), (ph1, .inl (K 0, 24, .inl f2)), (ph2, .inl (K 0, 24, .inl f3))] := hD
      refine uVi (As := [.int (nI (2 * j1)), .int (nI ((2 * j1) + 1))]) (rest := [.int y4]) (wr := []) [(ph0, .inr (3, [.ref pg3, .ref pg4, .ref pg5, .ref pg6, .ref ph1, .ref ph2, .int 0, .int 0, .int 1, .int 0])), (ph1, .inl (K 0, 24, .inl f2)), (ph2, .inl (K 0, 24, .inl f3))] B hl.1 hP hD hS [0, 1, 2] [] rfl rfl rfl (kX3_inOrder_92 l D K _ ph0 ph1 ph2 pg3 pg4 pg5 pg6 f2 f3 (2 * j1) ((2 * j1) + 1) (by omega) (by omega)) wd_X3_inOrder mml_X3_89 rfl rfl rfl rfl ⟨Nat.le_of_ble_eq_true rfl, Nat.le_of_ble_eq_true rfl⟩ (Nat.le_of_ble_eq_true rfl) ⟨Nat.le_of_ble_eq_true rfl, Nat.le_of_ble_eq_true rfl⟩ dX3_handOn_20 (fun r10 u H locs hw hP hD hS => ?_)
      obtain ⟨u11, u12⟩ := u
      try dsimp only at hw
      rcases hw with ⟨rfl, w13⟩ | ⟨rfl, ⟨w14, w15⟩⟩
      · have hP : va_P D vwCl [(ph0, .inr (3, [.ref pg3, .ref pg4, .ref pg5, .ref pg6, .ref ph1, .ref ph2, .int 0, .int 0, .int 1, .int 0])), (ph1, .inl (K 0, 24, .inl u11)), (ph2, .inl (K 0, 24, .inl u12))] H := hP
        have hD : va_D A [(ph0, .inr (3, [.ref pg3, .ref pg4, .ref pg5, .ref pg6, .ref ph1, .ref ph2, .int 0, .int 0, .int 1, .int 0])), (ph1, .inl (K 0, 24, .inl u11)), (ph2, .inl (K 0, 24, .inl u12))] := hD
        refine lv_ior hx hb dX3_handOn_23 ?_
        refine lv_istore_n (lv' := [(2, .int (y4 ||| 1)), (3, .int (nI j1)), (0, .ref ph0), (1, .int 0)]) hx hb dX3_handOn_24 rfl hl (by decide) rfl (fun ls hl => ?_)
        refine lv_iinc (v := nI (j1 + 1)) (lv' := [(3, .int (nI (j1 + 1))), (2, .int (y4 ||| 1)), (0, .ref ph0), (1, .int 0)]) hx hb dX3_handOn_25 hl (k := 1) rfl (nI_1 _) (by decide) rfl (fun ls hl => ?_)
        refine lv_pc (q := 28) rfl ?_
        refine lv_goto (tgt := 4) hx hb dX3_handOn_28 (by decide) ?_
        refine lv_pc (q := 4) rfl ?_
        refine W.widen (k := 0) (n := 0) (Nat.le_of_ble_eq_true rfl) (Nat.le_of_ble_eq_true rfl) ?_
        exact ih4 (j1 + 1) u11 u12 (y4 ||| 1) (by omega) (uBior hB2 (Or.inr rfl)) (by omega) _ _ _ (uSub hP [0, 1, 2] rfl) (hD.sub [0, 1, 2] rfl rfl) hS (lv_sub hl [0, 1, 2, 3] rfl)
      have hP : va_P D vwCl [(ph0, .inr (3, [.ref pg3, .ref pg4, .ref pg5, .ref pg6, .ref ph1, .ref ph2, .int 0, .int 0, .int 1, .int 0])), (ph1, .inl (K 0, 24, .inl u11)), (ph2, .inl (K 0, 24, .inl u12))] H := hP
      have hD : va_D A [(ph0, .inr (3, [.ref pg3, .ref pg4, .ref pg5, .ref pg6, .ref ph1, .ref ph2, .int 0, .int 0, .int 1, .int 0])), (ph1, .inl (K 0, 24, .inl u11)), (ph2, .inl (K 0, 24, .inl u12))] := hD
      refine lv_ior hx hb dX3_handOn_23 ?_
      refine lv_istore_n (lv' := [(2, .int (y4 ||| 0)), (3, .int (nI j1)), (0, .ref ph0), (1, .int 0)]) hx hb dX3_handOn_24 rfl hl (by decide) rfl (fun ls hl => ?_)
      refine lv_iinc (v := nI (j1 + 1)) (lv' := [(3, .int (nI (j1 + 1))), (2, .int (y4 ||| 0)), (0, .ref ph0), (1, .int 0)]) hx hb dX3_handOn_25 hl (k := 1) rfl (nI_1 _) (by decide) rfl (fun ls hl => ?_)
      refine lv_pc (q := 28) rfl ?_
      refine lv_goto (tgt := 4) hx hb dX3_handOn_28 (by decide) ?_
      refine lv_pc (q := 4) rfl ?_
      refine W.widen (k := 0) (n := 0) (Nat.le_of_ble_eq_true rfl) (Nat.le_of_ble_eq_true rfl) ?_
      exact ih4 (j1 + 1) u11 u12 (y4 ||| 0) (by omega) (uBior hB2 (Or.inl rfl)) (by omega) _ _ _ (uSub hP [0, 1, 2] rfl) (hD.sub [0, 1, 2] rfl rfl) hS (lv_sub hl [0, 1, 2, 3] rfl)
  refine lv_pc (q := 4) rfl ?_
  refine W.widen (k := 0) (n := 0) (Nat.le_of_ble_eq_true rfl) (Nat.le_of_ble_eq_true rfl) ?_
  exact L6 ((12 - 0) + 1) 0 pf7 pf8 0 (by omega) (by decide) (Nat.lt_succ_self _) _ _ _ hP hD hS hl
def qkX3_draw_94 (ph0 : Nat) (ph1 : Nat) (ph2 : Nat) (pg3 : Nat) (pg4 : Nat) (pg5 : Nat) (pg6 : Nat) (pf7 : Nat → Int32) (pf8 : Nat → Int32) : Int32 → (Int32 × (Nat → Int32) × (Nat → Int32)) → Prop := (fun (r : Int32) (u : Int32 × (Nat → Int32) × (Nat → Int32)) => (r = 1 ∧ u.1 = 1) ∨ (r = 0 ∧ u.1 = 0))
def vkX3_draw_94 (K : Nat → ClassId) (ph0 : Nat) (ph1 : Nat) (ph2 : Nat) (pg3 : Nat) (pg4 : Nat) (pg5 : Nat) (pg6 : Nat) (pf7 : Nat → Int32) (pf8 : Nat → Int32) : (Int32 × (Nat → Int32) × (Nat → Int32)) → va_W := (fun (u : Int32 × (Nat → Int32) × (Nat → Int32)) => [(ph0, .inr (3, [.ref pg3, .ref pg4, .ref pg5, .ref pg6, .ref ph1, .ref ph2, .int 0, .int 0, .int u.1, .int 0])), (ph1, .inl (K 0, 24, .inl (u.2.1))), (ph2, .inl (K 0, 24, .inl (u.2.2)))])
set_option maxHeartbeats 4000000 in
set_option maxRecDepth 100000 in
theorem kX3_draw_94 (l : Launch) (D : va_G) (K : Nat → ClassId) (sz : Nat) (ph0 : Nat) (ph1 : Nat) (ph2 : Nat) (pg3 : Nat) (pg4 : Nat) (pg5 : Nat) (pg6 : Nat) (pf7 : Nat → Int32) (pf8 : Nat → Int32) : uMi l yX3_draw cX3_draw 4 (some .boolean) { frames := 4, cells := 0, slots := 0, locals := 83 } [.ref ph0, .int 0] D K [(ph0, .inr (3, [.ref pg3, .ref pg4, .ref pg5, .ref pg6, .ref ph1, .ref ph2, .int 0, .int (-1), .int 1, .int 0])), (ph1, .inl (K 0, 24, .inl pf7)), (ph2, .inl (K 0, 24, .inl pf8))] sz (qkX3_draw_94 ph0 ph1 ph2 pg3 pg4 pg5 pg6 pf7 pf8) (vkX3_draw_94 K ph0 ph1 ph2 pg3 pg4 pg5 pg6 pf7 pf8) := by
  refine uMet (Qc := uQi D (qkX3_draw_94 ph0 ph1 ph2 pg3 pg4 pg5 pg6 pf7 pf8) (vkX3_draw_94 K ph0 ph1 ph2 pg3 pg4 pg5 pg6 pf7 pf8)) (ret := (some .boolean)) (by decide) (Nat.le_of_ble_eq_true rfl) ?_
  intro p e s m below meth c A ls hAe hsz B hP hD hS hl
  have hx := B.1
  have hb := B.2.1
  have hl : lv_has ls 4 [(0, .ref ph0), (1, .int 0)] := hl
  refine lv_iload_n hx hb dX3_draw_0 rfl (lv_at hl 1 rfl) ?_
  refine lv_aload_n hx hb dX3_draw_1 rfl (lv_at hl 0 rfl) ?_
  refine uGet (ci := 3) (C := RX3) (T := TX3) (N := 10) (v := .int (-1)) B inlX3 hP 0 rfl rfl 7 rfl mfl_X3_35 rfl rfl dX3_draw_2 ?_
  refine lv_icmp_ne (tgt := 13) hx hb dX3_draw_5 (by decide) (fun _ => ?_) (fun h9 => absurd h9 (by decide))
  refine lv_aload_n hx hb dX3_draw_13 rfl (lv_at hl 0 rfl) ?_
  refine lv_pc (q := 14) rfl ?_
  refine lv_iload_n hx hb dX3_draw_14 rfl (lv_at hl 1 rfl) ?_
  refine uPut (ci := 3) (C := RX3) (T := TX3) (N := 10) (ws' := [(ph0, .inr (3, [.ref pg3, .ref pg4, .ref pg5, .ref pg6, .ref ph1, .ref ph2, .int 0, .int 0, .int 1, .int 0])), (ph1, .inl (K 0, 24, .inl pf7)), (ph2, .inl (K 0, 24, .inl pf8))]) B inlX3 tyX3_ok nmX3 hP hD hS 0 rfl rfl 7 rfl mfl_X3_35 rfl rfl rfl rfl rfl rfl dX3_draw_15 (fun H locs hP hD hS => ?_)
  refine lv_aload_n hx hb dX3_draw_18 rfl (lv_at hl 0 rfl) ?_
  refine lv_iload_n hx hb dX3_draw_19 rfl (lv_at hl 1 rfl) ?_
  refine uVv (As := [.int 0]) (rest := []) (wr := [(ph1, .inl (K 0, 24, .inl pf7)), (ph2, .inl (K 0, 24, .inl pf8))]) [(ph0, .inr (3, [.ref pg3, .ref pg4, .ref pg5, .ref pg6, .ref ph1, .ref ph2, .int 0, .int 0, .int 1, .int 0]))] B hl.1 hP hD hS [0] [1, 2] rfl rfl rfl (kX3_markStruck_84 l D K _ ph0 pg3 pg4 pg5 pg6 ph1 ph2) wd_X3_markStruck mml_X3_45 rfl rfl rfl rfl ⟨Nat.le_of_ble_eq_true rfl, Nat.le_of_ble_eq_true rfl⟩ (Nat.le_of_ble_eq_true rfl) ⟨Nat.le_of_ble_eq_true rfl, Nat.le_of_ble_eq_true rfl⟩ dX3_draw_20 (fun u H locs hw hP hD hS => ?_)
  try dsimp only at hw
  have hP : va_P D vwCl [(ph1, .inl (K 0, 24, .inl pf7)), (ph2, .inl (K 0, 24, .inl pf8)), (ph0, .inr (3, [.ref pg3, .ref pg4, .ref pg5, .ref pg6, .ref ph1, .ref ph2, .int 0, .int 0, .int 1, .int 0]))] H := hP
  have hD : va_D A [(ph1, .inl (K 0, 24, .inl pf7)), (ph2, .inl (K 0, 24, .inl pf8)), (ph0, .inr (3, [.ref pg3, .ref pg4, .ref pg5, .ref pg6, .ref ph1, .ref ph2, .int 0, .int 0, .int 1, .int 0]))] := hD
  refine lv_aload_n hx hb dX3_draw_23 rfl (lv_at hl 0 rfl) ?_
  refine lv_pc (q := 24) rfl ?_
  refine uGet (ci := 3) (C := RX3) (T := TX3) (N := 10) (v := .ref ph1) B inlX3 hP 2 rfl rfl 4 rfl mfl_X3_25 rfl rfl dX3_draw_24 ?_
  refine lv_iconst (v := 0) hx hb dX3_draw_27 (by decide) ?_
  refine uSv (As := [.ref ph1, .int 0]) (rest := []) (wr := [(ph2, .inl (K 0, 24, .inl pf8)), (ph0, .inr (3, [.ref pg3, .ref pg4, .ref pg5, .ref pg6, .ref ph1, .ref ph2, .int 0, .int 0, .int 1, .int 0]))]) [(ph1, .inl (K 0, 24, .inl pf7))] B hl.1 hP hD hS [0] [1, 2] rfl rfl rfl (kJ7_fill_53178_85 l D K _ ph1 pf7) wd_J7_fill_53178 mml_X3_49 rfl rfl ⟨Nat.le_of_ble_eq_true rfl, Nat.le_of_ble_eq_true rfl⟩ (Nat.le_of_ble_eq_true rfl) ⟨Nat.le_of_ble_eq_true rfl, Nat.le_of_ble_eq_true rfl⟩ dX3_draw_28 (fun u H locs hw hP hD hS => ?_)
  obtain ⟨u3, e9⟩ : ∃ y, y = u := ⟨_, rfl⟩
  subst e9
  try dsimp only at hw
  have hP : va_P D vwCl [(ph2, .inl (K 0, 24, .inl pf8)), (ph0, .inr (3, [.ref pg3, .ref pg4, .ref pg5, .ref pg6, .ref ph1, .ref ph2, .int 0, .int 0, .int 1, .int 0])), (ph1, .inl (K 0, 24, .inl u3))] H := hP
  have hD : va_D A [(ph2, .inl (K 0, 24, .inl pf8)), (ph0, .inr (3, [.ref pg3, .ref pg4, .ref pg5, .ref pg6, .ref ph1, .ref ph2, .int 0, .int 0, .int 1, .int 0])), (ph1, .inl (K 0, 24, .inl u3))] := hD
  refine lv_aload_n hx hb dX3_draw_31 rfl (lv_at hl 0 rfl) ?_
  refine uGet (ci := 3) (C := RX3) (T := TX3) (N := 10) (v := .ref ph2) B inlX3 hP 1 rfl rfl 5 rfl mfl_X3_28 rfl rfl dX3_draw_32 ?_
  refine lv_sipush (v := 500) hx hb dX3_draw_35 (by decide) ?_
  refine lv_pc (q := 38) rfl ?_
  refine uSv (As := [.ref ph2, .int 500]) (rest := []) (wr := [(ph0, .inr (3, [.ref pg3, .ref pg4, .ref pg5, .ref pg6, .ref ph1, .ref ph2, .int 0, .int 0, .int 1, .int 0])), (ph1, .inl (K 0, 24, .inl u3))]) [(ph2, .inl (K 0, 24, .inl pf8))] B hl.1 hP hD hS [0] [1, 2] rfl rfl rfl (kJ7_fill_53178_86 l D K _ ph2 pf8) wd_J7_fill_53178 mml_X3_49 rfl rfl ⟨Nat.le_of_ble_eq_true rfl, Nat.le_of_ble_eq_true rfl⟩ (Nat.le_of_ble_eq_true rfl) ⟨Nat.le_of_ble_eq_true rfl, Nat.le_of_ble_eq_true rfl⟩ dX3_draw_38 (fun u H locs hw hP hD hS => ?_)
  obtain ⟨u5, e9⟩ : ∃ y, y = u := ⟨_, rfl⟩
  subst e9
  try dsimp only at hw
  have hP : va_P D vwCl [(ph0, .inr (3, [.ref pg3, .ref pg4, .ref pg5, .ref pg6, .ref ph1, .ref ph2, .int 0, .int 0, .int 1, .int 0])), (ph1, .inl (K 0, 24, .inl u3)), (ph2, .inl (K 0, 24, .inl u5))] H := hP
  have hD : va_D A [(ph0, .inr (3, [.ref pg3, .ref pg4, .ref pg5, .ref pg6, .ref ph1, .ref ph2, .int 0, .int 0, .int 1, .int 0])), (ph1, .inl (K 0, 24, .inl u3)), (ph2, .inl (K 0, 24, .inl u5))] := hD
  refine lv_iconst (v := 0) hx hb dX3_draw_41 (by decide) ?_
  refine lv_istore_n (lv' := [(2, .int 0), (0, .ref ph0), (1, .int 0)]) hx hb dX3_draw_42 rfl hl (by decide) rfl (fun ls hl => ?_)
  refine lv_iload_n hx hb dX3_draw_43 rfl (lv_at hl 0 rfl) ?_
  refine lv_iload_n hx hb dX3_draw_44 rfl (lv_at hl 2 rfl) ?_
  refine lv_icmp_ge (tgt := 68) hx hb dX3_draw_45 (by decide) (fun _ => ?_) (fun h9 => absurd (by decide) h9)
  refine lv_pc (q := 68) rfl ?_
  refine lv_iconst (v := 1) hx hb dX3_draw_68 (by decide) ?_
  refine lv_istore_n (lv' := [(2, .int 1), (0, .ref ph0), (1, .int 0)]) hx hb dX3_draw_69 rfl hl (by decide) rfl (fun ls hl => ?_)
  refine lv_iconst (v := 0) hx hb dX3_draw_70 (by decide) ?_
  refine lv_istore_n (lv' := [(3, .int 0), (2, .int 1), (0, .ref ph0), (1, .int 0)]) hx hb dX3_draw_71 rfl hl (by decide) rfl (fun ls hl => ?_)
  have L11 : ∀ (n9 : Nat) (j6 : Nat) (f7 : Nat → Int32) (f8 : Nat → Int32) (y9 : Int32), (j6 ≤ 24) → (y9 = 0 ∨ y9 = 1) → 24 - j6 < n9 → ∀ (H : Heap) (locs : List Loc) (ls : Array Slot), va_P D vwCl [(ph0, .inr (3, [.ref pg3, .ref pg4, .ref pg5, .ref pg6, .ref ph1, .ref ph2, .int 0, .int 0, .int 1, .int 0])), (ph1, .inl (K 0, 24, .inl f7)), (ph2, .inl (K 0, 24, .inl f8))] H → va_D A [(ph0, .inr (3, [.ref pg3, .ref pg4, .ref pg5, .ref pg6, .ref ph1, .ref ph2, .int 0, .int 0, .int 1, .int 0])), (ph1, .inl (K 0, 24, .inl f7)), (ph2, .inl (K 0, 24, .inl f8))] → va_S A s.heap H locs → lv_has ls 4 [(3, .int (nI j6)), (2, .int y9), (0, .ref ph0), (1, .int 0)] → W p l e { frames := 4, cells := 0, slots := 0, locals := 83 } s m ([.ref ph0, .int 0] : List Value).toArray below meth c H locs 0 0 (MQ below (uQi D (qkX3_draw_94 ph0 ph1 ph2 pg3 pg4 pg5 pg6 pf7 pf8) (vkX3_draw_94 K ph0 ph1 ph2 pg3 pg4 pg5 pg6 pf7 pf8) A) ([.ref ph0, .int 0] : List Value).toArray s 0 0 A) (F0 m 72 ls []) := by
    intro n9
    induction n9 with
    | zero => intros; exact absurd ‹_ < 0› (Nat.not_lt_zero _)
    | succ n72_ ih72 =>
      intro j6 f7 f8 y9 hj6 hB2 hm72 H locs ls hP hD hS hl
      refine lv_iload_n hx hb dX3_draw_72 rfl (lv_at hl 1 rfl) ?_
      refine lv_if_eq (tgt := 94) hx hb dX3_draw_73 (by decide) (fun c12 => ?_) (fun c12 => ?_)
      · refine lv_pc (q := 94) rfl ?_
        refine lv_aload_n hx hb dX3_draw_94 rfl (lv_at hl 2 rfl) ?_
        refine lv_aload_n hx hb dX3_draw_95 rfl (lv_at hl 2 rfl) ?_
        refine uVi (As := []) (rest := [.ref ph0]) (wr := []) [(ph0, .inr (3, [.ref pg3, .ref pg4, .ref pg5, .ref pg6, .ref ph1, .ref ph2, .int 0, .int 0, .int 1, .int 0])), (ph1, .inl (K 0, 24, .inl f7)), (ph2, .inl (K 0, 24, .inl f8))] B hl.1 hP hD hS [0, 1, 2] [] rfl rfl rfl (kX3_boundsMeet_87 l D K _ ph0 ph1 ph2 pg3 pg4 pg5 pg6 f7 f8) wd_X3_boundsMeet mml_X3_62 rfl rfl rfl rfl ⟨Nat.le_of_ble_eq_true rfl, Nat.le_of_ble_eq_true rfl⟩ (Nat.le_of_ble_eq_true rfl) ⟨Nat.le_of_ble_eq_true rfl, Nat.le_of_ble_eq_true rfl⟩ dX3_draw_96 (fun r13 u H locs hw hP hD hS => ?_)
        try dsimp only at hw
        rcases hw with rfl | rfl
        · have hP : va_P D vwCl [(ph0, .inr (3, [.ref pg3, .ref pg4, .ref pg5, .ref pg6, .ref ph1, .ref ph2, .int 0, .int 0, .int 1, .int 0])), (ph1, .inl (K 0, 24, .inl f7)), (ph2, .inl (K 0, 24, .inl f8))] H := hP
          have hD : va_D A [(ph0, .inr (3, [.ref pg3, .ref pg4, .ref pg5, .ref pg6, .ref ph1, .ref ph2, .int 0, .int 0, .int 1, .int 0])), (ph1, .inl (K 0, 24, .inl f7)), (ph2, .inl (K 0, 24, .inl f8))] := hD
          refine uPut (ci := 3) (C := RX3) (T := TX3) (N := 10) (ws' := [(ph0, .inr (3, [.ref pg3, .ref pg4, .ref pg5, .ref pg6, .ref ph1, .ref ph2, .int 0, .int 0, .int 1, .int 0])), (ph1, .inl (K 0, 24, .inl f7)), (ph2, .inl (K 0, 24, .inl f8))]) B inlX3 tyX3_ok nmX3 hP hD hS 0 rfl rfl 8 rfl mfl_X3_38 rfl rfl rfl rfl rfl rfl dX3_draw_99 (fun H locs hP hD hS => ?_)
          refine lv_aload_n hx hb dX3_draw_102 rfl (lv_at hl 2 rfl) ?_
          refine uGet (ci := 3) (C := RX3) (T := TX3) (N := 10) (v := .int 1) B inlX3 hP 0 rfl rfl 8 rfl mfl_X3_38 rfl rfl dX3_draw_103 ?_
          refine lv_pc (q := 106) rfl ?_
          exact uRz (1, f7, f8) B rfl (Or.inl ⟨rfl, rfl⟩) (uSub hP [0, 1, 2] rfl) (hD.sub [0, 1, 2] rfl rfl) hS dX3_draw_106
        have hP : va_P D vwCl [(ph0, .inr (3, [.ref pg3, .ref pg4, .ref pg5, .ref pg6, .ref ph1, .ref ph2, .int 0, .int 0, .int 1, .int 0])), (ph1, .inl (K 0, 24, .inl f7)), (ph2, .inl (K 0, 24, .inl f8))] H := hP
        have hD : va_D A [(ph0, .inr (3, [.ref pg3, .ref pg4, .ref pg5, .ref pg6, .ref ph1, .ref ph2, .int 0, .int 0, .int 1, .int 0])), (ph1, .inl (K 0, 24, .inl f7)), (ph2, .inl (K 0, 24, .inl f8))] := hD
        refine uPut (ci := 3) (C := RX3) (T := TX3) (N := 10) (ws' := [(ph0, .inr (3, [.ref pg3, .ref pg4, .ref pg5, .ref pg6, .ref ph1, .ref ph2, .int 0, .int 0, .int 0, .int 0])), (ph1, .inl (K 0, 24, .inl f7)), (ph2, .inl (K 0, 24, .inl f8))]) B inlX3 tyX3_ok nmX3 hP hD hS 0 rfl rfl 8 rfl mfl_X3_38 rfl rfl rfl rfl rfl rfl dX3_draw_99 (fun H locs hP hD hS => ?_)
        refine lv_aload_n hx hb dX3_draw_102 rfl (lv_at hl 2 rfl) ?_
        refine uGet (ci := 3) (C := RX3) (T := TX3) (N := 10) (v := .int 0) B inlX3 hP 0 rfl rfl 8 rfl mfl_X3_38 rfl rfl dX3_draw_103 ?_
        refine lv_pc (q := 106) rfl ?_
        exact uRz (0, f7, f8) B rfl (Or.inr ⟨rfl, rfl⟩) (uSub hP [0, 1, 2] rfl) (hD.sub [0, 1, 2] rfl rfl) hS dX3_draw_106
      refine lv_pc (q := 76) rfl ?_
      refine lv_iload_n hx hb dX3_draw_76 rfl (lv_at hl 0 rfl) ?_
      refine lv_bipush (v := 24) hx hb dX3_draw_77 (by decide) ?_
      refine lv_icmp_ge (tgt := 94) hx hb dX3_draw_79 (by decide) (fun c14 => ?_) (fun c14 => ?_)
      · have k_14 : 24 ≤ j6 := (nI_leI (a := 24) (b := j6) (by omega) (by omega)).mp c14
        refine lv_aload_n hx hb dX3_draw_94 rfl (lv_at hl 2 rfl) ?_
        refine lv_aload_n hx hb dX3_draw_95 rfl (lv_at hl 2 rfl) ?_
        refine uVi (As := []) (rest := [.ref ph0]) (wr := []) [(ph0, .inr (3, [.ref pg3, .ref pg4, .ref pg5, .ref pg6, .ref ph1, .ref ph2, .int 0, .int 0, .int 1, .int 0])), (ph1, .inl (K 0, 24, .inl f7)), (ph2, .inl (K 0, 24, .inl f8))] B hl.1 hP hD hS [0, 1, 2] [] rfl rfl rfl (kX3_boundsMeet_87 l D K _ ph0 ph1 ph2 pg3 pg4 pg5 pg6 f7 f8) wd_X3_boundsMeet mml_X3_62 rfl rfl rfl rfl ⟨Nat.le_of_ble_eq_true rfl, Nat.le_of_ble_eq_true rfl⟩ (Nat.le_of_ble_eq_true rfl) ⟨Nat.le_of_ble_eq_true rfl, Nat.le_of_ble_eq_true rfl⟩ dX3_draw_96 (fun r15 u H locs hw hP hD hS => ?_)
        try dsimp only at hw
        rcases hw with rfl | rfl
        · have hP : va_P D vwCl [(ph0, .inr (3, [.ref pg3, .ref pg4, .ref pg5, .ref pg6, .ref ph1, .ref ph2, .int 0, .int 0, .int 1, .int 0])), (ph1, .inl (K 0, 24, .inl f7)), (ph2, .inl (K 0, 24, .inl f8))] H := hP
          have hD : va_D A [(ph0, .inr (3, [.ref pg3, .ref pg4, .ref pg5, .ref pg6, .ref ph1, .ref ph2, .int 0, .int 0, .int 1, .int 0])), (ph1, .inl (K 0, 24, .inl f7)), (ph2, .inl (K 0, 24, .inl f8))] := hD
          refine lv_pc (q := 99) rfl ?_
          refine uPut (ci := 3) (C := RX3) (T := TX3) (N := 10) (ws' := [(ph0, .inr (3, [.ref pg3, .ref pg4, .ref pg5, .ref pg6, .ref ph1, .ref ph2, .int 0, .int 0, .int 1, .int 0])), (ph1, .inl (K 0, 24, .inl f7)), (ph2, .inl (K 0, 24, .inl f8))]) B inlX3 tyX3_ok nmX3 hP hD hS 0 rfl rfl 8 rfl mfl_X3_38 rfl rfl rfl rfl rfl rfl dX3_draw_99 (fun H locs hP hD hS => ?_)
          refine lv_aload_n hx hb dX3_draw_102 rfl (lv_at hl 2 rfl) ?_
          refine uGet (ci := 3) (C := RX3) (T := TX3) (N := 10) (v := .int 1) B inlX3 hP 0 rfl rfl 8 rfl mfl_X3_38 rfl rfl dX3_draw_103 ?_
          exact uRz (1, f7, f8) B rfl (Or.inl ⟨rfl, rfl⟩) (uSub hP [0, 1, 2] rfl) (hD.sub [0, 1, 2] rfl rfl) hS dX3_draw_106
        have hP : va_P D vwCl [(ph0, .inr (3, [.ref pg3, .ref pg4, .ref pg5, .ref pg6, .ref ph1, .ref ph2, .int 0, .int 0, .int 1, .int 0])), (ph1, .inl (K 0, 24, .inl f7)), (ph2, .inl (K 0, 24, .inl f8))] H := hP
        have hD : va_D A [(ph0, .inr (3, [.ref pg3, .ref pg4, .ref pg5, .ref pg6, .ref ph1, .ref ph2, .int 0, .int 0, .int 1, .int 0])), (ph1, .inl (K 0, 24, .inl f7)), (ph2, .inl (K 0, 24, .inl f8))] := hD
        refine lv_pc (q := 99) rfl ?_
        refine uPut (ci := 3) (C := RX3) (T := TX3) (N := 10) (ws' := [(ph0, .inr (3, [.ref pg3, .ref pg4, .ref pg5, .ref pg6, .ref ph1, .ref ph2, .int 0, .int 0, .int 0, .int 0])), (ph1, .inl (K 0, 24, .inl f7)), (ph2, .inl (K 0, 24, .inl f8))]) B inlX3 tyX3_ok nmX3 hP hD hS 0 rfl rfl 8 rfl mfl_X3_38 rfl rfl rfl rfl rfl rfl dX3_draw_99 (fun H locs hP hD hS => ?_)
        refine lv_aload_n hx hb dX3_draw_102 rfl (lv_at hl 2 rfl) ?_
        refine uGet (ci := 3) (C := RX3) (T := TX3) (N := 10) (v := .int 0) B inlX3 hP 0 rfl rfl 8 rfl mfl_X3_38 rfl rfl dX3_draw_103 ?_
        exact uRz (0, f7, f8) B rfl (Or.inr ⟨rfl, rfl⟩) (uSub hP [0, 1, 2] rfl) (hD.sub [0, 1, 2] rfl rfl) hS dX3_draw_106
      have k_14 : ¬ 24 ≤ j6 := fun h9 => c14 ((nI_leI (a := 24) (b := j6) (by omega) (by omega)).mpr h9)
      refine lv_aload_n hx hb dX3_draw_82 rfl (lv_at hl 2 rfl) ?_
      refine lv_iload_n hx hb dX3_draw_83 rfl (lv_at hl 3 rfl) ?_
      refine uVi (As := [.int 0]) (rest := []) (wr := []) [(ph0, .inr (3, [.ref pg3, .ref pg4, .ref pg5, .ref pg6, .ref ph1, .ref ph2, .int 0, .int 0, .int 1, .int 0])), (ph1, .inl (K 0, 24, .inl f7)), (ph2, .inl (K 0, 24, .inl f8))] B hl.1 hP hD hS [0, 1, 2] [] rfl rfl rfl (kX3_handOn_93 l D K _ ph0 ph1 ph2 pg3 pg4 pg5 pg6 f7 f8) wd_X3_handOn mml_X3_58 rfl rfl rfl rfl ⟨Nat.le_of_ble_eq_true rfl, Nat.le_of_ble_eq_true rfl⟩ (Nat.le_of_ble_eq_true rfl) ⟨Nat.le_of_ble_eq_true rfl, Nat.le_of_ble_eq_true rfl⟩ dX3_draw_84 (fun r16 u H locs hw hP hD hS => ?_)
      obtain ⟨u17, u18⟩ := u
      try dsimp only at hw
      have e19 := hw
      have hP : va_P D vwCl [(ph0, .inr (3, [.ref pg3, .ref pg4, .ref pg5, .ref pg6, .ref ph1, .ref ph2, .int 0, .int 0, .int 1, .int 0])), (ph1, .inl (K 0, 24, .inl u17)), (ph2, .inl (K 0, 24, .inl u18))] H := hP
      have hD : va_D A [(ph0, .inr (3, [.ref pg3, .ref pg4, .ref pg5, .ref pg6, .ref ph1, .ref ph2, .int 0, .int 0, .int 1, .int 0])), (ph1, .inl (K 0, 24, .inl u17)), (ph2, .inl (K 0, 24, .inl u18))] := hD
      refine lv_pc (q := 87) rfl ?_
      refine lv_istore_n (lv' := [(2, .int r16), (3, .int (nI j6)), (0, .ref ph0), (1, .int 0)]) hx hb dX3_draw_87 rfl hl (by decide) rfl (fun ls hl => ?_)
      refine lv_iinc (v := nI (j6 + 1)) (lv' := [(3, .int (nI (j6 + 1))), (2, .int r16), (0, .ref ph0), (1, .int 0)]) hx hb dX3_draw_88 hl (k := 1) rfl (nI_1 _) (by decide) rfl (fun ls hl => ?_)
      refine lv_goto (tgt := 72) hx hb dX3_draw_91 (by decide) ?_
      refine lv_pc (q := 72) rfl ?_
      refine W.widen (k := 0) (n := 0) (Nat.le_of_ble_eq_true rfl) (Nat.le_of_ble_eq_true rfl) ?_
      exact ih72 (j6 + 1) u17 u18 r16 (by omega) e19 (by omega) _ _ _ (uSub hP [0, 1, 2] rfl) (hD.sub [0, 1, 2] rfl rfl) hS (lv_sub hl [0, 1, 2, 3] rfl)
  refine lv_pc (q := 72) rfl ?_
  refine W.widen (k := 0) (n := 0) (Nat.le_of_ble_eq_true rfl) (Nat.le_of_ble_eq_true rfl) ?_
  exact L11 ((24 - 0) + 1) 0 u3 u5 1 (by omega) (by decide) (Nat.lt_succ_self _) _ _ _ hP hD hS hl
def qkX1_standingAs_95 (ph0 : Nat) (ph1 : Nat) (pg2 : Nat) (pg3 : Nat) (pg4 : Nat) (pg5 : Nat) (pg6 : Nat) (pg7 : Nat) (pg8 : Nat) (pg9 : Nat) (pg10 : Nat) (pg11 : Nat) (pg12 : Nat) (pg13 : Nat) (pg14 : Nat) (px15 : Int32) (px16 : Int32) : Int32 → (Unit) → Prop := (fun (r : Int32) (u : Unit) => r = 0)
def vkX1_standingAs_95 (K : Nat → ClassId) (ph0 : Nat) (ph1 : Nat) (pg2 : Nat) (pg3 : Nat) (pg4 : Nat) (pg5 : Nat) (pg6 : Nat) (pg7 : Nat) (pg8 : Nat) (pg9 : Nat) (pg10 : Nat) (pg11 : Nat) (pg12 : Nat) (pg13 : Nat) (pg14 : Nat) (px15 : Int32) (px16 : Int32) : (Unit) → va_W := (fun (u : Unit) => [(ph0, .inr (1, [.ref ph1, .ref pg2, .ref pg3, .ref pg4, .ref pg5, .int 0, .int 0])), (ph1, .inr (4, [.ref pg6, .ref pg7, .ref pg8, .ref pg9, .ref pg10, .ref pg11, .ref pg12, .ref pg13, .ref pg14, .int 0]))])
set_option maxHeartbeats 4000000 in
set_option maxRecDepth 100000 in
theorem kX1_standingAs_95 (l : Launch) (D : va_G) (K : Nat → ClassId) (sz : Nat) (ph0 : Nat) (ph1 : Nat) (pg2 : Nat) (pg3 : Nat) (pg4 : Nat) (pg5 : Nat) (pg6 : Nat) (pg7 : Nat) (pg8 : Nat) (pg9 : Nat) (pg10 : Nat) (pg11 : Nat) (pg12 : Nat) (pg13 : Nat) (pg14 : Nat) (px15 : Int32) (px16 : Int32) : uMi l yX1_standingAs cX1_standingAs 6 (some .int) { frames := 0, cells := 0, slots := 0, locals := 0 } [.ref ph0, .int 0, .int px15, .int px16] D K [(ph0, .inr (1, [.ref ph1, .ref pg2, .ref pg3, .ref pg4, .ref pg5, .int 0, .int 0])), (ph1, .inr (4, [.ref pg6, .ref pg7, .ref pg8, .ref pg9, .ref pg10, .ref pg11, .ref pg12, .ref pg13, .ref pg14, .int 0]))] sz (qkX1_standingAs_95 ph0 ph1 pg2 pg3 pg4 pg5 pg6 pg7 pg8 pg9 pg10 pg11 pg12 pg13 pg14 px15 px16) (vkX1_standingAs_95 K ph0 ph1 pg2 pg3 pg4 pg5 pg6 pg7 pg8 pg9 pg10 pg11 pg12 pg13 pg14 px15 px16) := by
  refine uMet (Qc := uQi D (qkX1_standingAs_95 ph0 ph1 pg2 pg3 pg4 pg5 pg6 pg7 pg8 pg9 pg10 pg11 pg12 pg13 pg14 px15 px16) (vkX1_standingAs_95 K ph0 ph1 pg2 pg3 pg4 pg5 pg6 pg7 pg8 pg9 pg10 pg11 pg12 pg13 pg14 px15 px16)) (ret := (some .int)) (by decide) (Nat.le_of_ble_eq_true rfl) ?_
  intro p e s m below meth c A ls hAe hsz B hP hD hS hl
  have hx := B.1
  have hb := B.2.1
  have hl : lv_has ls 6 [(0, .ref ph0), (1, .int 0), (2, .int px15), (3, .int px16)] := hl
  refine lv_iconst (v := 0) hx hb dX1_standingAs_0 (by decide) ?_
  refine lv_istore (lv' := [(4, .int 0), (0, .ref ph0), (1, .int 0), (2, .int px15), (3, .int px16)]) hx hb dX1_standingAs_1 hl (by decide) rfl (fun ls hl => ?_)
  refine lv_iconst (v := 0) hx hb dX1_standingAs_3 (by decide) ?_
  refine lv_istore (lv' := [(5, .int 0), (4, .int 0), (0, .ref ph0), (1, .int 0), (2, .int px15), (3, .int px16)]) hx hb dX1_standingAs_4 hl (by decide) rfl (fun ls hl => ?_)
  refine lv_iload hx hb dX1_standingAs_6 (lv_at hl 0 rfl) ?_
  refine lv_pc (q := 8) rfl ?_
  refine lv_aload_n hx hb dX1_standingAs_8 rfl (lv_at hl 2 rfl) ?_
  refine uGet (ci := 1) (C := RX1) (T := TX1) (N := 7) (v := .ref ph1) B inlX1 hP 0 rfl rfl 0 rfl mfl_X1_25 rfl rfl dX1_standingAs_9 ?_
  refine uGet (ci := 4) (C := RX4) (T := TX4) (N := 10) (v := .int 0) B inlX4 hP 1 rfl rfl 9 rfl mfl_X1_56 rfl rfl dX1_standingAs_12 ?_
  refine lv_icmp_ge (tgt := 61) hx hb dX1_standingAs_15 (by decide) (fun _ => ?_) (fun h9 => absurd (by decide) h9)
  refine lv_iload hx hb dX1_standingAs_61 (lv_at hl 1 rfl) ?_
  exact uRi () B rfl (uSub hP [0, 1] rfl) (hD.sub [0, 1] rfl rfl) hS dX1_standingAs_63
def qkJ7_fill_53178_96 (ph0 : Nat) (pf1 : Nat → Int32) : ((Nat → Int32)) → Prop := (fun (u : (Nat → Int32)) => True)
def vkJ7_fill_53178_96 (K : Nat → ClassId) (ph0 : Nat) (pf1 : Nat → Int32) : ((Nat → Int32)) → va_W := (fun (u : (Nat → Int32)) => [(ph0, .inl (K 0, 12, .inl u))])
set_option maxHeartbeats 4000000 in
set_option maxRecDepth 100000 in
theorem kJ7_fill_53178_96 (l : Launch) (D : va_G) (K : Nat → ClassId) (sz : Nat) (ph0 : Nat) (pf1 : Nat → Int32) : uMv l yJ7_fill_53178 cJ7_fill_53178 4 { frames := 0, cells := 0, slots := 0, locals := 0 } [.ref ph0, .int 0] D K [(ph0, .inl (K 0, 12, .inl pf1))] sz (qkJ7_fill_53178_96 ph0 pf1) (vkJ7_fill_53178_96 K ph0 pf1) := by
  refine uMet (Qc := uQv D (qkJ7_fill_53178_96 ph0 pf1) (vkJ7_fill_53178_96 K ph0 pf1)) (ret := none) (by decide) (Nat.le_of_ble_eq_true rfl) ?_
  intro p e s m below meth c A ls hAe hsz B hP hD hS hl
  have hx := B.1
  have hb := B.2.1
  have hl : lv_has ls 4 [(0, .ref ph0), (1, .int 0)] := hl
  refine lv_iconst (v := 0) hx hb dJ7_fill_53178_0 (by decide) ?_
  refine lv_istore_n (lv' := [(2, .int 0), (0, .ref ph0), (1, .int 0)]) hx hb dJ7_fill_53178_1 rfl hl (by decide) rfl (fun ls hl => ?_)
  refine lv_aload_n hx hb dJ7_fill_53178_2 rfl (lv_at hl 1 rfl) ?_
  refine uAlen (t0 := 0) (v := 12) B hP 0 rfl rfl rfl dJ7_fill_53178_3 ?_
  refine lv_istore_n (lv' := [(3, .int 12), (2, .int 0), (0, .ref ph0), (1, .int 0)]) hx hb dJ7_fill_53178_4 rfl hl (by decide) rfl (fun ls hl => ?_)
  have L4 : ∀ (n9 : Nat) (j1 : Nat) (f2 : Nat → Int32), (j1 ≤ 12) → 12 - j1 < n9 → ∀ (H : Heap) (locs : List Loc) (ls : Array Slot), va_P D vwCl [(ph0, .inl (K 0, 12, .inl f2))] H → va_D A [(ph0, .inl (K 0, 12, .inl f2))] → va_S A s.heap H locs → lv_has ls 4 [(3, .int 12), (2, .int (nI j1)), (0, .ref ph0), (1, .int 0)] → W p l e { frames := 0, cells := 0, slots := 0, locals := 0 } s m ([.ref ph0, .int 0] : List Value).toArray below meth c H locs 0 0 (MQ below (uQv D (qkJ7_fill_53178_96 ph0 pf1) (vkJ7_fill_53178_96 K ph0 pf1) A) ([.ref ph0, .int 0] : List Value).toArray s 0 0 A) (F0 m 5 ls []) := by
    intro n9
    induction n9 with
    | zero => intros; exact absurd ‹_ < 0› (Nat.not_lt_zero _)
    | succ n5_ ih5 =>
      intro j1 f2 hj1 hm5 H locs ls hP hD hS hl
      refine lv_pc (q := 5) rfl ?_
      refine lv_iload_n hx hb dJ7_fill_53178_5 rfl (lv_at hl 1 rfl) ?_
      refine lv_iload_n hx hb dJ7_fill_53178_6 rfl (lv_at hl 0 rfl) ?_
      refine lv_icmp_ge (tgt := 20) hx hb dJ7_fill_53178_7 (by decide) (fun c5 => ?_) (fun c5 => ?_)
      · have k_5 : 12 ≤ j1 := (nI_leI (a := 12) (b := j1) (by omega) (by omega)).mp c5
        exact uRv f2 B trivial (uSub hP [0] rfl) (hD.sub [0] rfl rfl) hS dJ7_fill_53178_20
      have k_5 : ¬ 12 ≤ j1 := fun h9 => c5 ((nI_leI (a := 12) (b := j1) (by omega) (by omega)).mpr h9)
      refine lv_aload_n hx hb dJ7_fill_53178_10 rfl (lv_at hl 2 rfl) ?_
      refine lv_iload_n hx hb dJ7_fill_53178_11 rfl (lv_at hl 1 rfl) ?_
      refine lv_iload_n hx hb dJ7_fill_53178_12 rfl (lv_at hl 3 rfl) ?_
      refine lv_pc (q := 13) rfl ?_
      refine uIast (i := (nI j1)) (j := j1) (ws' := [(ph0, .inl (K 0, 12, .inl (upd f2 j1 0)))]) B hP hD hS 0 rfl (nI_in (by omega) (by omega)) (nI_clamp (by omega)) rfl dJ7_fill_53178_13 (fun H locs hP hD hS => ?_)
      refine lv_iinc (v := nI (j1 + 1)) (lv' := [(2, .int (nI (j1 + 1))), (3, .int 12), (0, .ref ph0), (1, .int 0)]) hx hb dJ7_fill_53178_14 hl (k := 1) rfl (nI_1 _) (by decide) rfl (fun ls hl => ?_)
      refine lv_goto (tgt := 5) hx hb dJ7_fill_53178_17 (by decide) ?_
      refine lv_pc (q := 5) rfl ?_
      refine W.widen (k := 0) (n := 0) (Nat.le_of_ble_eq_true rfl) (Nat.le_of_ble_eq_true rfl) ?_
      exact ih5 (j1 + 1) (upd f2 j1 0) (by omega) (by omega) _ _ _ (uSub hP [0] rfl) (hD.sub [0] rfl rfl) hS (lv_sub hl [1, 0, 2, 3] rfl)
  refine lv_pc (q := 5) rfl ?_
  refine W.widen (k := 0) (n := 0) (Nat.le_of_ble_eq_true rfl) (Nat.le_of_ble_eq_true rfl) ?_
  exact L4 ((12 - 0) + 1) 0 pf1 (by omega) (Nat.lt_succ_self _) _ _ _ hP hD hS hl
def qkX1_draw_97 (ph0 : Nat) (ph1 : Nat) (ph2 : Nat) (ph3 : Nat) (ph4 : Nat) (ph5 : Nat) (ph6 : Nat) (pg7 : Nat) (pg8 : Nat) (pg9 : Nat) (pg10 : Nat) (pg11 : Nat) (pf12 : Nat → Int32) (pf13 : Nat → Int32) (pg14 : Nat) (pg15 : Nat) (pg16 : Nat) (pg17 : Nat) (pg18 : Nat) (pg19 : Nat) (pg20 : Nat) (pg21 : Nat) (pg22 : Nat) (pf23 : Nat → Int32) (pf24 : Nat → Int32) (px25 : Int32) (px26 : Int32) (px27 : Int32) (px28 : Int32) : (Int32 × (Nat → Int32) × (Nat → Int32) × (Nat → Int32) × (Nat → Int32)) → Prop := (fun (u : Int32 × (Nat → Int32) × (Nat → Int32) × (Nat → Int32) × (Nat → Int32)) => (u.1 = 1) ∨ (u.1 = 0))
def vkX1_draw_97 (K : Nat → ClassId) (ph0 : Nat) (ph1 : Nat) (ph2 : Nat) (ph3 : Nat) (ph4 : Nat) (ph5 : Nat) (ph6 : Nat) (pg7 : Nat) (pg8 : Nat) (pg9 : Nat) (pg10 : Nat) (pg11 : Nat) (pf12 : Nat → Int32) (pf13 : Nat → Int32) (pg14 : Nat) (pg15 : Nat) (pg16 : Nat) (pg17 : Nat) (pg18 : Nat) (pg19 : Nat) (pg20 : Nat) (pg21 : Nat) (pg22 : Nat) (pf23 : Nat → Int32) (pf24 : Nat → Int32) (px25 : Int32) (px26 : Int32) (px27 : Int32) (px28 : Int32) : (Int32 × (Nat → Int32) × (Nat → Int32) × (Nat → Int32) × (Nat → Int32)) → va_W := (fun (u : Int32 × (Nat → Int32) × (Nat → Int32) × (Nat → Int32) × (Nat → Int32)) => [(ph0, .inr (1, [.ref ph4, .ref ph1, .ref pg7, .ref ph5, .ref ph6, .int 0, .int 0])), (ph1, .inr (3, [.ref pg8, .ref pg9, .ref pg10, .ref pg11, .ref ph2, .ref ph3, .int 0, .int 0, .int u.1, .int 0])), (ph2, .inl (K 0, 24, .inl (u.2.1))), (ph3, .inl (K 0, 24, .inl (u.2.2.1))), (ph4, .inr (4, [.ref pg14, .ref pg15, .ref pg16, .ref pg17, .ref pg18, .ref pg19, .ref pg20, .ref pg21, .ref pg22, .int 0])), (ph5, .inl (K 0, 12, .inl (u.2.2.2.1))), (ph6, .inl (K 0, 12, .inl (u.2.2.2.2)))])
set_option maxHeartbeats 4000000 in
set_option maxRecDepth 100000 in
theorem kX1_draw_97 (l : Launch) (D : va_G) (K : Nat → ClassId) (sz : Nat) (ph0 : Nat) (ph1 : Nat) (ph2 : Nat) (ph3 : Nat) (ph4 : Nat) (ph5 : Nat) (ph6 : Nat) (pg7 : Nat) (pg8 : Nat) (pg9 : Nat) (pg10 : Nat) (pg11 : Nat) (pf12 : Nat → Int32) (pf13 : Nat → Int32) (pg14 : Nat) (pg15 : Nat) (pg16 : Nat) (pg17 : Nat) (pg18 : Nat) (pg19 : Nat) (pg20 : Nat) (pg21 : Nat) (pg22 : Nat) (pf23 : Nat → Int32) (pf24 : Nat → Int32) (px25 : Int32) (px26 : Int32) (px27 : Int32) (px28 : Int32) : uMv l yX1_draw cX1_draw 9 { frames := 5, cells := 0, slots := 0, locals := 106 } [.ref ph0, .int px25, .int px26, .int px27, .int px28, .int 0] D K [(ph0, .inr (1, [.ref ph4, .ref ph1, .ref pg7, .ref ph5, .ref ph6, .int 0, .int 0])), (ph1, .inr (3, [.ref pg8, .ref pg9, .ref pg10, .ref pg11, .ref ph2, .ref ph3, .int 0, .int (-1), .int 1, .int 0])), (ph2, .inl (K 0, 24, .inl pf12)), (ph3, .inl (K 0, 24, .inl pf13)), (ph4, .inr (4, [.ref pg14, .ref pg15, .ref pg16, .ref pg17, .ref pg18, .ref pg19, .ref pg20, .ref pg21, .ref pg22, .int 0])), (ph5, .inl (K 0, 12, .inl pf23)), (ph6, .inl (K 0, 12, .inl pf24))] sz (qkX1_draw_97 ph0 ph1 ph2 ph3 ph4 ph5 ph6 pg7 pg8 pg9 pg10 pg11 pf12 pf13 pg14 pg15 pg16 pg17 pg18 pg19 pg20 pg21 pg22 pf23 pf24 px25 px26 px27 px28) (vkX1_draw_97 K ph0 ph1 ph2 ph3 ph4 ph5 ph6 pg7 pg8 pg9 pg10 pg11 pf12 pf13 pg14 pg15 pg16 pg17 pg18 pg19 pg20 pg21 pg22 pf23 pf24 px25 px26 px27 px28) := by
  refine uMet (Qc := uQv D (qkX1_draw_97 ph0 ph1 ph2 ph3 ph4 ph5 ph6 pg7 pg8 pg9 pg10 pg11 pf12 pf13 pg14 pg15 pg16 pg17 pg18 pg19 pg20 pg21 pg22 pf23 pf24 px25 px26 px27 px28) (vkX1_draw_97 K ph0 ph1 ph2 ph3 ph4 ph5 ph6 pg7 pg8 pg9 pg10 pg11 pf12 pf13 pg14 pg15 pg16 pg17 pg18 pg19 pg20 pg21 pg22 pf23 pf24 px25 px26 px27 px28)) (ret := none) (by decide) (Nat.le_of_ble_eq_true rfl) ?_
  intro p e s m below meth c A ls hAe hsz B hP hD hS hl
  have hx := B.1
  have hb := B.2.1
  have hl : lv_has ls 9 [(0, .ref ph0), (1, .int px25), (2, .int px26), (3, .int px27), (4, .int px28), (5, .int 0)] := hl
  refine lv_aload_n hx hb dX1_draw_0 rfl (lv_at hl 0 rfl) ?_
  refine uGet (ci := 1) (C := RX1) (T := TX1) (N := 7) (v := .ref ph1) B inlX1 hP 0 rfl rfl 1 rfl mfl_X1_29 rfl rfl dX1_draw_1 ?_
  refine lv_aload_n hx hb dX1_draw_4 rfl (lv_at hl 0 rfl) ?_
  refine uGet (ci := 1) (C := RX1) (T := TX1) (N := 7) (v := .ref ph1) B inlX1 hP 0 rfl rfl 1 rfl mfl_X1_29 rfl rfl dX1_draw_5 ?_
  refine uGet (ci := 3) (C := RX3) (T := TX3) (N := 10) (v := .int 0) B inlX3 hP 1 rfl rfl 6 rfl mfl_X1_37 rfl rfl dX1_draw_8 ?_
  refine lv_pc (q := 11) rfl ?_
  refine uVi (As := [.int 0]) (rest := []) (wr := [(ph0, .inr (1, [.ref ph4, .ref ph1, .ref pg7, .ref ph5, .ref ph6, .int 0, .int 0])), (ph4, .inr (4, [.ref pg14, .ref pg15, .ref pg16, .ref pg17, .ref pg18, .ref pg19, .ref pg20, .ref pg21, .ref pg22, .int 0])), (ph5, .inl (K 0, 12, .inl pf23)), (ph6, .inl (K 0, 12, .inl pf24))]) [(ph1, .inr (3, [.ref pg8, .ref pg9, .ref pg10, .ref pg11, .ref ph2, .ref ph3, .int 0, .int (-1), .int 1, .int 0])), (ph2, .inl (K 0, 24, .inl pf12)), (ph3, .inl (K 0, 24, .inl pf13))] B hl.1 hP hD hS [1, 2, 3] [0, 4, 5, 6] rfl rfl rfl (kX3_draw_94 l D K _ ph1 ph2 ph3 pg8 pg9 pg10 pg11 pf12 pf13) wd_X3_draw mml_X1_42 rfl rfl rfl rfl ⟨Nat.le_of_ble_eq_true rfl, Nat.le_of_ble_eq_true rfl⟩ (Nat.le_of_ble_eq_true rfl) ⟨Nat.le_of_ble_eq_true rfl, Nat.le_of_ble_eq_true rfl⟩ dX1_draw_11 (fun r1 u H locs hw hP hD hS => ?_)
  obtain ⟨u2, u3, u4⟩ := u
  try dsimp only at hw
  rcases hw with ⟨rfl, rfl⟩ | ⟨rfl, rfl⟩
  · have hP : va_P D vwCl [(ph0, .inr (1, [.ref ph4, .ref ph1, .ref pg7, .ref ph5, .ref ph6, .int 0, .int 0])), (ph4, .inr (4, [.ref pg14, .ref pg15, .ref pg16, .ref pg17, .ref pg18, .ref pg19, .ref pg20, .ref pg21, .ref pg22, .int 0])), (ph5, .inl (K 0, 12, .inl pf23)), (ph6, .inl (K 0, 12, .inl pf24)), (ph1, .inr (3, [.ref pg8, .ref pg9, .ref pg10, .ref pg11, .ref ph2, .ref ph3, .int 0, .int 0, .int 1, .int 0])), (ph2, .inl (K 0, 24, .inl u3)), (ph3, .inl (K 0, 24, .inl u4))] H := hP
    have hD : va_D A [(ph0, .inr (1, [.ref ph4, .ref ph1, .ref pg7, .ref ph5, .ref ph6, .int 0, .int 0])), (ph4, .inr (4, [.ref pg14, .ref pg15, .ref pg16, .ref pg17, .ref pg18, .ref pg19, .ref pg20, .ref pg21, .ref pg22, .int 0])), (ph5, .inl (K 0, 12, .inl pf23)), (ph6, .inl (K 0, 12, .inl pf24)), (ph1, .inr (3, [.ref pg8, .ref pg9, .ref pg10, .ref pg11, .ref ph2, .ref ph3, .int 0, .int 0, .int 1, .int 0])), (ph2, .inl (K 0, 24, .inl u3)), (ph3, .inl (K 0, 24, .inl u4))] := hD
    refine lv_pop hx hb dX1_draw_14 rfl ?_
    refine lv_aload_n hx hb dX1_draw_15 rfl (lv_at hl 0 rfl) ?_
    refine lv_aload_n hx hb dX1_draw_16 rfl (lv_at hl 0 rfl) ?_
    refine lv_iconst (v := 0) hx hb dX1_draw_17 (by decide) ?_
    refine lv_iload_n hx hb dX1_draw_18 rfl (lv_at hl 3 rfl) ?_
    refine lv_pc (q := 19) rfl ?_
    refine lv_iload hx hb dX1_draw_19 (lv_at hl 4 rfl) ?_
    refine uVi (As := [.int 0, .int px27, .int px28]) (rest := [.ref ph0]) (wr := [(ph5, .inl (K 0, 12, .inl pf23)), (ph6, .inl (K 0, 12, .inl pf24)), (ph1, .inr (3, [.ref pg8, .ref pg9, .ref pg10, .ref pg11, .ref ph2, .ref ph3, .int 0, .int 0, .int 1, .int 0])), (ph2, .inl (K 0, 24, .inl u3)), (ph3, .inl (K 0, 24, .inl u4))]) [(ph0, .inr (1, [.ref ph4, .ref ph1, .ref pg7, .ref ph5, .ref ph6, .int 0, .int 0])), (ph4, .inr (4, [.ref pg14, .ref pg15, .ref pg16, .ref pg17, .ref pg18, .ref pg19, .ref pg20, .ref pg21, .ref pg22, .int 0]))] B hl.1 hP hD hS [0, 1] [2, 3, 4, 5, 6] rfl rfl rfl (kX1_standingAs_95 l D K _ ph0 ph4 ph1 pg7 ph5 ph6 pg14 pg15 pg16 pg17 pg18 pg19 pg20 pg21 pg22 px27 px28) wd_X1_standingAs mml_X1_46 rfl rfl rfl rfl ⟨Nat.le_of_ble_eq_true rfl, Nat.le_of_ble_eq_true rfl⟩ (Nat.le_of_ble_eq_true rfl) ⟨Nat.le_of_ble_eq_true rfl, Nat.le_of_ble_eq_true rfl⟩ dX1_draw_21 (fun r5 u H locs hw hP hD hS => ?_)
    try dsimp only at hw
    rcases hw with rfl
    have hP : va_P D vwCl [(ph5, .inl (K 0, 12, .inl pf23)), (ph6, .inl (K 0, 12, .inl pf24)), (ph1, .inr (3, [.ref pg8, .ref pg9, .ref pg10, .ref pg11, .ref ph2, .ref ph3, .int 0, .int 0, .int 1, .int 0])), (ph2, .inl (K 0, 24, .inl u3)), (ph3, .inl (K 0, 24, .inl u4)), (ph0, .inr (1, [.ref ph4, .ref ph1, .ref pg7, .ref ph5, .ref ph6, .int 0, .int 0])), (ph4, .inr (4, [.ref pg14, .ref pg15, .ref pg16, .ref pg17, .ref pg18, .ref pg19, .ref pg20, .ref pg21, .ref pg22, .int 0]))] H := hP
    have hD : va_D A [(ph5, .inl (K 0, 12, .inl pf23)), (ph6, .inl (K 0, 12, .inl pf24)), (ph1, .inr (3, [.ref pg8, .ref pg9, .ref pg10, .ref pg11, .ref ph2, .ref ph3, .int 0, .int 0, .int 1, .int 0])), (ph2, .inl (K 0, 24, .inl u3)), (ph3, .inl (K 0, 24, .inl u4)), (ph0, .inr (1, [.ref ph4, .ref ph1, .ref pg7, .ref ph5, .ref ph6, .int 0, .int 0])), (ph4, .inr (4, [.ref pg14, .ref pg15, .ref pg16, .ref pg17, .ref pg18, .ref pg19, .ref pg20, .ref pg21, .ref pg22, .int 0]))] := hD
    refine uPut (ci := 1) (C := RX1) (T := TX1) (N := 7) (ws' := [(ph5, .inl (K 0, 12, .inl pf23)), (ph6, .inl (K 0, 12, .inl pf24)), (ph1, .inr (3, [.ref pg8, .ref pg9, .ref pg10, .ref pg11, .ref ph2, .ref ph3, .int 0, .int 0, .int 1, .int 0])), (ph2, .inl (K 0, 24, .inl u3)), (ph3, .inl (K 0, 24, .inl u4)), (ph0, .inr (1, [.ref ph4, .ref ph1, .ref pg7, .ref ph5, .ref ph6, .int 0, .int 0])), (ph4, .inr (4, [.ref pg14, .ref pg15, .ref pg16, .ref pg17, .ref pg18, .ref pg19, .ref pg20, .ref pg21, .ref pg22, .int 0]))]) B inlX1 tyX1_ok nmX1 hP hD hS 5 rfl rfl 5 rfl mfl_X1_18 rfl rfl rfl rfl rfl rfl dX1_draw_24 (fun H locs hP hD hS => ?_)
    refine lv_aload_n hx hb dX1_draw_27 rfl (lv_at hl 0 rfl) ?_
    refine lv_iload hx hb dX1_draw_28 (lv_at hl 5 rfl) ?_
    refine lv_if_eq (tgt := 44) hx hb dX1_draw_30 (by decide) (fun _ => ?_) (fun h9 => absurd (by decide) h9)
    refine lv_pc (q := 44) rfl ?_
    refine lv_iconst (v := 0) hx hb dX1_draw_44 (by decide) ?_
    refine uPut (ci := 1) (C := RX1) (T := TX1) (N := 7) (ws' := [(ph5, .inl (K 0, 12, .inl pf23)), (ph6, .inl (K 0, 12, .inl pf24)), (ph1, .inr (3, [.ref pg8, .ref pg9, .ref pg10, .ref pg11, .ref ph2, .ref ph3, .int 0, .int 0, .int 1, .int 0])), (ph2, .inl (K 0, 24, .inl u3)), (ph3, .inl (K 0, 24, .inl u4)), (ph0, .inr (1, [.ref ph4, .ref ph1, .ref pg7, .ref ph5, .ref ph6, .int 0, .int 0])), (ph4, .inr (4, [.ref pg14, .ref pg15, .ref pg16, .ref pg17, .ref pg18, .ref pg19, .ref pg20, .ref pg21, .ref pg22, .int 0]))]) B inlX1 tyX1_ok nmX1 hP hD hS 5 rfl rfl 6 rfl mfl_X1_22 rfl rfl rfl rfl rfl rfl dX1_draw_45 (fun H locs hP hD hS => ?_)
    refine lv_aload_n hx hb dX1_draw_48 rfl (lv_at hl 0 rfl) ?_
    refine uGet (ci := 1) (C := RX1) (T := TX1) (N := 7) (v := .ref ph5) B inlX1 hP 5 rfl rfl 3 rfl mfl_X1_9 rfl rfl dX1_draw_49 ?_
    refine lv_iconst (v := 0) hx hb dX1_draw_52 (by decide) ?_
    refine uSv (As := [.ref ph5, .int 0]) (rest := []) (wr := [(ph6, .inl (K 0, 12, .inl pf24)), (ph1, .inr (3, [.ref pg8, .ref pg9, .ref pg10, .ref pg11, .ref ph2, .ref ph3, .int 0, .int 0, .int 1, .int 0])), (ph2, .inl (K 0, 24, .inl u3)), (ph3, .inl (K 0, 24, .inl u4)), (ph0, .inr (1, [.ref ph4, .ref ph1, .ref pg7, .ref ph5, .ref ph6, .int 0, .int 0])), (ph4, .inr (4, [.ref pg14, .ref pg15, .ref pg16, .ref pg17, .ref pg18, .ref pg19, .ref pg20, .ref pg21, .ref pg22, .int 0]))]) [(ph5, .inl (K 0, 12, .inl pf23))] B hl.1 hP hD hS [0] [1, 2, 3, 4, 5, 6] rfl rfl rfl (kJ7_fill_53178_96 l D K _ ph5 pf23) wd_J7_fill_53178 mml_X1_50 rfl rfl ⟨Nat.le_of_ble_eq_true rfl, Nat.le_of_ble_eq_true rfl⟩ (Nat.le_of_ble_eq_true rfl) ⟨Nat.le_of_ble_eq_true rfl, Nat.le_of_ble_eq_true rfl⟩ dX1_draw_53 (fun u H locs hw hP hD hS => ?_)
    obtain ⟨u7, e9⟩ : ∃ y, y = u := ⟨_, rfl⟩
    subst e9
    try dsimp only at hw
    have hP : va_P D vwCl [(ph6, .inl (K 0, 12, .inl pf24)), (ph1, .inr (3, [.ref pg8, .ref pg9, .ref pg10, .ref pg11, .ref ph2, .ref ph3, .int 0, .int 0, .int 1, .int 0])), (ph2, .inl (K 0, 24, .inl u3)), (ph3, .inl (K 0, 24, .inl u4)), (ph0, .inr (1, [.ref ph4, .ref ph1, .ref pg7, .ref ph5, .ref ph6, .int 0, .int 0])), (ph4, .inr (4, [.ref pg14, .ref pg15, .ref pg16, .ref pg17, .ref pg18, .ref pg19, .ref pg20, .ref pg21, .ref pg22, .int 0])), (ph5, .inl (K 0, 12, .inl u7))] H := hP
    have hD : va_D A [(ph6, .inl (K 0, 12, .inl pf24)), (ph1, .inr (3, [.ref pg8, .ref pg9, .ref pg10, .ref pg11, .ref ph2, .ref ph3, .int 0, .int 0, .int 1, .int 0])), (ph2, .inl (K 0, 24, .inl u3)), (ph3, .inl (K 0, 24, .inl u4)), (ph0, .inr (1, [.ref ph4, .ref ph1, .ref pg7, .ref ph5, .ref ph6, .int 0, .int 0])), (ph4, .inr (4, [.ref pg14, .ref pg15, .ref pg16, .ref pg17, .ref pg18, .ref pg19, .ref pg20, .ref pg21, .ref pg22, .int 0])), (ph5, .inl (K 0, 12, .inl u7))] := hD
    refine lv_pc (q := 56) rfl ?_
    refine lv_aload_n hx hb dX1_draw_56 rfl (lv_at hl 0 rfl) ?_
    refine uGet (ci := 1) (C := RX1) (T := TX1) (N := 7) (v := .ref ph6) B inlX1 hP 4 rfl rfl 4 rfl mfl_X1_15 rfl rfl dX1_draw_57 ?_
    refine lv_iconst (v := 0) hx hb dX1_draw_60 (by decide) ?_
    refine uSv (As := [.ref ph6, .int 0]) (rest := []) (wr := [(ph1, .inr (3, [.ref pg8, .ref pg9, .ref pg10, .ref pg11, .ref ph2, .ref ph3, .int 0, .int 0, .int 1, .int 0])), (ph2, .inl (K 0, 24, .inl u3)), (ph3, .inl (K 0, 24, .inl u4)), (ph0, .inr (1, [.ref ph4, .ref ph1, .ref pg7, .ref ph5, .ref ph6, .int 0, .int 0])), (ph4, .inr (4, [.ref pg14, .ref pg15, .ref pg16, .ref pg17, .ref pg18, .ref pg19, .ref pg20, .ref pg21, .ref pg22, .int 0])), (ph5, .inl (K 0, 12, .inl u7))]) [(ph6, .inl (K 0, 12, .inl pf24))] B hl.1 hP hD hS [0] [1, 2, 3, 4, 5, 6] rfl rfl rfl (kJ7_fill_53178_96 l D K _ ph6 pf24) wd_J7_fill_53178 mml_X1_50 rfl rfl ⟨Nat.le_of_ble_eq_true rfl, Nat.le_of_ble_eq_true rfl⟩ (Nat.le_of_ble_eq_true rfl) ⟨Nat.le_of_ble_eq_true rfl, Nat.le_of_ble_eq_true rfl⟩ dX1_draw_61 (fun u H locs hw hP hD hS => ?_)
    obtain ⟨u9, e9⟩ : ∃ y, y = u := ⟨_, rfl⟩
    subst e9
    try dsimp only at hw
    have hP : va_P D vwCl [(ph1, .inr (3, [.ref pg8, .ref pg9, .ref pg10, .ref pg11, .ref ph2, .ref ph3, .int 0, .int 0, .int 1, .int 0])), (ph2, .inl (K 0, 24, .inl u3)), (ph3, .inl (K 0, 24, .inl u4)), (ph0, .inr (1, [.ref ph4, .ref ph1, .ref pg7, .ref ph5, .ref ph6, .int 0, .int 0])), (ph4, .inr (4, [.ref pg14, .ref pg15, .ref pg16, .ref pg17, .ref pg18, .ref pg19, .ref pg20, .ref pg21, .ref pg22, .int 0])), (ph5, .inl (K 0, 12, .inl u7)), (ph6, .inl (K 0, 12, .inl u9))] H := hP
    have hD : va_D A [(ph1, .inr (3, [.ref pg8, .ref pg9, .ref pg10, .ref pg11, .ref ph2, .ref ph3, .int 0, .int 0, .int 1, .int 0])), (ph2, .inl (K 0, 24, .inl u3)), (ph3, .inl (K 0, 24, .inl u4)), (ph0, .inr (1, [.ref ph4, .ref ph1, .ref pg7, .ref ph5, .ref ph6, .int 0, .int 0])), (ph4, .inr (4, [.ref pg14, .ref pg15, .ref pg16, .ref pg17, .ref pg18, .ref pg19, .ref pg20, .ref pg21, .ref pg22, .int 0])), (ph5, .inl (K 0, 12, .inl u7)), (ph6, .inl (K 0, 12, .inl u9))] := hD
    refine lv_aload_n hx hb dX1_draw_64 rfl (lv_at hl 0 rfl) ?_
    refine uGet (ci := 1) (C := RX1) (T := TX1) (N := 7) (v := .int 0) B inlX1 hP 3 rfl rfl 5 rfl mfl_X1_18 rfl rfl dX1_draw_65 ?_
    refine lv_pc (q := 68) rfl ?_
    refine lv_aload_n hx hb dX1_draw_68 rfl (lv_at hl 0 rfl) ?_
    refine uGet (ci := 1) (C := RX1) (T := TX1) (N := 7) (v := .int 0) B inlX1 hP 3 rfl rfl 6 rfl mfl_X1_22 rfl rfl dX1_draw_69 ?_
    refine lv_ior hx hb dX1_draw_72 ?_
    refine lv_fixi (y := 0) (by decide) ?_
    refine lv_istore (lv' := [(6, .int 0), (0, .ref ph0), (1, .int px25), (2, .int px26), (3, .int px27), (4, .int px28), (5, .int 0)]) hx hb dX1_draw_73 hl (by decide) rfl (fun ls hl => ?_)
    refine lv_iconst (v := 0) hx hb dX1_draw_75 (by decide) ?_
    refine lv_istore (lv' := [(7, .int 0), (6, .int 0), (0, .ref ph0), (1, .int px25), (2, .int px26), (3, .int px27), (4, .int px28), (5, .int 0)]) hx hb dX1_draw_76 hl (by decide) rfl (fun ls hl => ?_)
    refine lv_pc (q := 78) rfl ?_
    refine lv_iload hx hb dX1_draw_78 (lv_at hl 0 rfl) ?_
    refine lv_aload_n hx hb dX1_draw_80 rfl (lv_at hl 2 rfl) ?_
    refine uGet (ci := 1) (C := RX1) (T := TX1) (N := 7) (v := .ref ph4) B inlX1 hP 3 rfl rfl 0 rfl mfl_X1_25 rfl rfl dX1_draw_81 ?_
    refine uGet (ci := 4) (C := RX4) (T := TX4) (N := 10) (v := .int 0) B inlX4 hP 4 rfl rfl 9 rfl mfl_X1_56 rfl rfl dX1_draw_84 ?_
    refine lv_icmp_ge (tgt := 160) hx hb dX1_draw_87 (by decide) (fun _ => ?_) (fun h9 => absurd (by decide) h9)
    exact uRv (1, u3, u4, u7, u9) B (Or.inl rfl) (uSub hP [3, 0, 1, 2, 4, 5, 6] rfl) (hD.sub [3, 0, 1, 2, 4, 5, 6] rfl rfl) hS dX1_draw_160
  have hP : va_P D vwCl [(ph0, .inr (1, [.ref ph4, .ref ph1, .ref pg7, .ref ph5, .ref ph6, .int 0, .int 0])), (ph4, .inr (4, [.ref pg14, .ref pg15, .ref pg16, .ref pg17, .ref pg18, .ref pg19, .ref pg20, .ref pg21, .ref pg22, .int 0])), (ph5, .inl (K 0, 12, .inl pf23)), (ph6, .inl (K 0, 12, .inl pf24)), (ph1, .inr (3, [.ref pg8, .ref pg9, .ref pg10, .ref pg11, .ref ph2, .ref ph3, .int 0, .int 0, .int 0, .int 0])), (ph2, .inl (K 0, 24, .inl u3)), (ph3, .inl (K 0, 24, .inl u4))] H := hP
  have hD : va_D A [(ph0, .inr (1, [.ref ph4, .ref ph1, .ref pg7, .ref ph5, .ref ph6, .int 0, .int 0])), (ph4, .inr (4, [.ref pg14, .ref pg15, .ref pg16, .ref pg17, .ref pg18, .ref pg19, .ref pg20, .ref pg21, .ref pg22, .int 0])), (ph5, .inl (K 0, 12, .inl pf23)), (ph6, .inl (K 0, 12, .inl pf24)), (ph1, .inr (3, [.ref pg8, .ref pg9, .ref pg10, .ref pg11, .ref ph2, .ref ph3, .int 0, .int 0, .int 0, .int 0])), (ph2, .inl (K 0, 24, .inl u3)), (ph3, .inl (K 0, 24, .inl u4))] := hD
  refine lv_pop hx hb dX1_draw_14 rfl ?_
  refine lv_aload_n hx hb dX1_draw_15 rfl (lv_at hl 0 rfl) ?_
  refine lv_aload_n hx hb dX1_draw_16 rfl (lv_at hl 0 rfl) ?_
  refine lv_iconst (v := 0) hx hb dX1_draw_17 (by decide) ?_
  refine lv_iload_n hx hb dX1_draw_18 rfl (lv_at hl 3 rfl) ?_
  refine lv_pc (q := 19) rfl ?_
  refine lv_iload hx hb dX1_draw_19 (lv_at hl 4 rfl) ?_
  refine uVi (As := [.int 0, .int px27, .int px28]) (rest := [.ref ph0]) (wr := [(ph5, .inl (K 0, 12, .inl pf23)), (ph6, .inl (K 0, 12, .inl pf24)), (ph1, .inr (3, [.ref pg8, .ref pg9, .ref pg10, .ref pg11, .ref ph2, .ref ph3, .int 0, .int 0, .int 0, .int 0])), (ph2, .inl (K 0, 24, .inl u3)), (ph3, .inl (K 0, 24, .inl u4))]) [(ph0, .inr (1, [.ref ph4, .ref ph1, .ref pg7, .ref ph5, .ref ph6, .int 0, .int 0])), (ph4, .inr (4, [.ref pg14, .ref pg15, .ref pg16, .ref pg17, .ref pg18, .ref pg19, .ref pg20, .ref pg21, .ref pg22, .int 0]))] B hl.1 hP hD hS [0, 1] [2, 3, 4, 5, 6] rfl rfl rfl (kX1_standingAs_95 l D K _ ph0 ph4 ph1 pg7 ph5 ph6 pg14 pg15 pg16 pg17 pg18 pg19 pg20 pg21 pg22 px27 px28) wd_X1_standingAs mml_X1_46 rfl rfl rfl rfl ⟨Nat.le_of_ble_eq_true rfl, Nat.le_of_ble_eq_true rfl⟩ (Nat.le_of_ble_eq_true rfl) ⟨Nat.le_of_ble_eq_true rfl, Nat.le_of_ble_eq_true rfl⟩ dX1_draw_21 (fun r10 u H locs hw hP hD hS => ?_)
  try dsimp only at hw
  rcases hw with rfl
  have hP : va_P D vwCl [(ph5, .inl (K 0, 12, .inl pf23)), (ph6, .inl (K 0, 12, .inl pf24)), (ph1, .inr (3, [.ref pg8, .ref pg9, .ref pg10, .ref pg11, .ref ph2, .ref ph3, .int 0, .int 0, .int 0, .int 0])), (ph2, .inl (K 0, 24, .inl u3)), (ph3, .inl (K 0, 24, .inl u4)), (ph0, .inr (1, [.ref ph4, .ref ph1, .ref pg7, .ref ph5, .ref ph6, .int 0, .int 0])), (ph4, .inr (4, [.ref pg14, .ref pg15, .ref pg16, .ref pg17, .ref pg18, .ref pg19, .ref pg20, .ref pg21, .ref pg22, .int 0]))] H := hP
  have hD : va_D A [(ph5, .inl (K 0, 12, .inl pf23)), (ph6, .inl (K 0, 12, .inl pf24)), (ph1, .inr (3, [.ref pg8, .ref pg9, .ref pg10, .ref pg11, .ref ph2, .ref ph3, .int 0, .int 0, .int 0, .int 0])), (ph2, .inl (K 0, 24, .inl u3)), (ph3, .inl (K 0, 24, .inl u4)), (ph0, .inr (1, [.ref ph4, .ref ph1, .ref pg7, .ref ph5, .ref ph6, .int 0, .int 0])), (ph4, .inr (4, [.ref pg14, .ref pg15, .ref pg16, .ref pg17, .ref pg18, .ref pg19, .ref pg20, .ref pg21, .ref pg22, .int 0]))] := hD
  refine uPut (ci := 1) (C := RX1) (T := TX1) (N := 7) (ws' := [(ph5, .inl (K 0, 12, .inl pf23)), (ph6, .inl (K 0, 12, .inl pf24)), (ph1, .inr (3, [.ref pg8, .ref pg9, .ref pg10, .ref pg11, .ref ph2, .ref ph3, .int 0, .int 0, .int 0, .int 0])), (ph2, .inl (K 0, 24, .inl u3)), (ph3, .inl (K 0, 24, .inl u4)), (ph0, .inr (1, [.ref ph4, .ref ph1, .ref pg7, .ref ph5, .ref ph6, .int 0, .int 0])), (ph4, .inr (4, [.ref pg14, .ref pg15, .ref pg16, .ref pg17, .ref pg18, .ref pg19, .ref pg20, .ref pg21, .ref pg22, .int 0]))]) B inlX1 tyX1_ok nmX1 hP hD hS 5 rfl rfl 5 rfl mfl_X1_18 rfl rfl rfl rfl rfl rfl dX1_draw_24 (fun H locs hP hD hS => ?_)
  refine lv_aload_n hx hb dX1_draw_27 rfl (lv_at hl 0 rfl) ?_
  refine lv_iload hx hb dX1_draw_28 (lv_at hl 5 rfl) ?_
  refine lv_if_eq (tgt := 44) hx hb dX1_draw_30 (by decide) (fun _ => ?_) (fun h9 => absurd (by decide) h9)
  refine lv_pc (q := 44) rfl ?_
  refine lv_iconst (v := 0) hx hb dX1_draw_44 (by decide) ?_
  refine uPut (ci := 1) (C := RX1) (T := TX1) (N := 7) (ws' := [(ph5, .inl (K 0, 12, .inl pf23)), (ph6, .inl (K 0, 12, .inl pf24)), (ph1, .inr (3, [.ref pg8, .ref pg9, .ref pg10, .ref pg11, .ref ph2, .ref ph3, .int 0, .int 0, .int 0, .int 0])), (ph2, .inl (K 0, 24, .inl u3)), (ph3, .inl (K 0, 24, .inl u4)), (ph0, .inr (1, [.ref ph4, .ref ph1, .ref pg7, .ref ph5, .ref ph6, .int 0, .int 0])), (ph4, .inr (4, [.ref pg14, .ref pg15, .ref pg16, .ref pg17, .ref pg18, .ref pg19, .ref pg20, .ref pg21, .ref pg22, .int 0]))]) B inlX1 tyX1_ok nmX1 hP hD hS 5 rfl rfl 6 rfl mfl_X1_22 rfl rfl rfl rfl rfl rfl dX1_draw_45 (fun H locs hP hD hS => ?_)
  refine lv_aload_n hx hb dX1_draw_48 rfl (lv_at hl 0 rfl) ?_
  refine uGet (ci := 1) (C := RX1) (T := TX1) (N := 7) (v := .ref ph5) B inlX1 hP 5 rfl rfl 3 rfl mfl_X1_9 rfl rfl dX1_draw_49 ?_
  refine lv_iconst (v := 0) hx hb dX1_draw_52 (by decide) ?_
  refine uSv (As := [.ref ph5, .int 0]) (rest := []) (wr := [(ph6, .inl (K 0, 12, .inl pf24)), (ph1, .inr (3, [.ref pg8, .ref pg9, .ref pg10, .ref pg11, .ref ph2, .ref ph3, .int 0, .int 0, .int 0, .int 0])), (ph2, .inl (K 0, 24, .inl u3)), (ph3, .inl (K 0, 24, .inl u4)), (ph0, .inr (1, [.ref ph4, .ref ph1, .ref pg7, .ref ph5, .ref ph6, .int 0, .int 0])), (ph4, .inr (4, [.ref pg14, .ref pg15, .ref pg16, .ref pg17, .ref pg18, .ref pg19, .ref pg20, .ref pg21, .ref pg22, .int 0]))]) [(ph5, .inl (K 0, 12, .inl pf23))] B hl.1 hP hD hS [0] [1, 2, 3, 4, 5, 6] rfl rfl rfl (kJ7_fill_53178_96 l D K _ ph5 pf23) wd_J7_fill_53178 mml_X1_50 rfl rfl ⟨Nat.le_of_ble_eq_true rfl, Nat.le_of_ble_eq_true rfl⟩ (Nat.le_of_ble_eq_true rfl) ⟨Nat.le_of_ble_eq_true rfl, Nat.le_of_ble_eq_true rfl⟩ dX1_draw_53 (fun u H locs hw hP hD hS => ?_)
  obtain ⟨u12, e9⟩ : ∃ y, y = u := ⟨_, rfl⟩
  subst e9
  try dsimp only at hw
  have hP : va_P D vwCl [(ph6, .inl (K 0, 12, .inl pf24)), (ph1, .inr (3, [.ref pg8, .ref pg9, .ref pg10, .ref pg11, .ref ph2, .ref ph3, .int 0, .int 0, .int 0, .int 0])), (ph2, .inl (K 0, 24, .inl u3)), (ph3, .inl (K 0, 24, .inl u4)), (ph0, .inr (1, [.ref ph4, .ref ph1, .ref pg7, .ref ph5, .ref ph6, .int 0, .int 0])), (ph4, .inr (4, [.ref pg14, .ref pg15, .ref pg16, .ref pg17, .ref pg18, .ref pg19, .ref pg20, .ref pg21, .ref pg22, .int 0])), (ph5, .inl (K 0, 12, .inl u12))] H := hP
  have hD : va_D A [(ph6, .inl (K 0, 12, .inl pf24)), (ph1, .inr (3, [.ref pg8, .ref pg9, .ref pg10, .ref pg11, .ref ph2, .ref ph3, .int 0, .int 0, .int 0, .int 0])), (ph2, .inl (K 0, 24, .inl u3)), (ph3, .inl (K 0, 24, .inl u4)), (ph0, .inr (1, [.ref ph4, .ref ph1, .ref pg7, .ref ph5, .ref ph6, .int 0, .int 0])), (ph4, .inr (4, [.ref pg14, .ref pg15, .ref pg16, .ref pg17, .ref pg18, .ref pg19, .ref pg20, .ref pg21, .ref pg22, .int 0])), (ph5, .inl (K 0, 12, .inl u12))] := hD
  refine lv_pc (q := 56) rfl ?_
  refine lv_aload_n hx hb dX1_draw_56 rfl (lv_at hl 0 rfl) ?_
  refine uGet (ci := 1) (C := RX1) (T := TX1) (N := 7) (v := .ref ph6) B inlX1 hP 4 rfl rfl 4 rfl mfl_X1_15 rfl rfl dX1_draw_57 ?_
  refine lv_iconst (v := 0) hx hb dX1_draw_60 (by decide) ?_
  refine uSv (As := [.ref ph6, .int 0]) (rest := []) (wr := [(ph1, .inr (3, [.ref pg8, .ref pg9, .ref pg10, .ref pg11, .ref ph2, .ref ph3, .int 0, .int 0, .int 0, .int 0])), (ph2, .inl (K 0, 24, .inl u3)), (ph3, .inl (K 0, 24, .inl u4)), (ph0, .inr (1, [.ref ph4, .ref ph1, .ref pg7, .ref ph5, .ref ph6, .int 0, .int 0])), (ph4, .inr (4, [.ref pg14, .ref pg15, .ref pg16, .ref pg17, .ref pg18, .ref pg19, .ref pg20, .ref pg21, .ref pg22, .int 0])), (ph5, .inl (K 0, 12, .inl u12))]) [(ph6, .inl (K 0, 12, .inl pf24))] B hl.1 hP hD hS [0] [1, 2, 3, 4, 5, 6] rfl rfl rfl (kJ7_fill_53178_96 l D K _ ph6 pf24) wd_J7_fill_53178 mml_X1_50 rfl rfl ⟨Nat.le_of_ble_eq_true rfl, Nat.le_of_ble_eq_true rfl⟩ (Nat.le_of_ble_eq_true rfl) ⟨Nat.le_of_ble_eq_true rfl, Nat.le_of_ble_eq_true rfl⟩ dX1_draw_61 (fun u H locs hw hP hD hS => ?_)
  obtain ⟨u14, e9⟩ : ∃ y, y = u := ⟨_, rfl⟩
  subst e9
  try dsimp only at hw
  have hP : va_P D vwCl [(ph1, .inr (3, [.ref pg8, .ref pg9, .ref pg10, .ref pg11, .ref ph2, .ref ph3, .int 0, .int 0, .int 0, .int 0])), (ph2, .inl (K 0, 24, .inl u3)), (ph3, .inl (K 0, 24, .inl u4)), (ph0, .inr (1, [.ref ph4, .ref ph1, .ref pg7, .ref ph5, .ref ph6, .int 0, .int 0])), (ph4, .inr (4, [.ref pg14, .ref pg15, .ref pg16, .ref pg17, .ref pg18, .ref pg19, .ref pg20, .ref pg21, .ref pg22, .int 0])), (ph5, .inl (K 0, 12, .inl u12)), (ph6, .inl (K 0, 12, .inl u14))] H := hP
  have hD : va_D A [(ph1, .inr (3, [.ref pg8, .ref pg9, .ref pg10, .ref pg11, .ref ph2, .ref ph3, .int 0, .int 0, .int 0, .int 0])), (ph2, .inl (K 0, 24, .inl u3)), (ph3, .inl (K 0, 24, .inl u4)), (ph0, .inr (1, [.ref ph4, .ref ph1, .ref pg7, .ref ph5, .ref ph6, .int 0, .int 0])), (ph4, .inr (4, [.ref pg14, .ref pg15, .ref pg16, .ref pg17, .ref pg18, .ref pg19, .ref pg20, .ref pg21, .ref pg22, .int 0])), (ph5, .inl (K 0, 12, .inl u12)), (ph6, .inl (K 0, 12, .inl u14))] := hD
  refine lv_aload_n hx hb dX1_draw_64 rfl (lv_at hl 0 rfl) ?_
  refine uGet (ci := 1) (C := RX1) (T := TX1) (N := 7) (v := .int 0) B inlX1 hP 3 rfl rfl 5 rfl mfl_X1_18 rfl rfl dX1_draw_65 ?_
  refine lv_pc (q := 68) rfl ?_
  refine lv_aload_n hx hb dX1_draw_68 rfl (lv_at hl 0 rfl) ?_
  refine uGet (ci := 1) (C := RX1) (T := TX1) (N := 7) (v := .int 0) B inlX1 hP 3 rfl rfl 6 rfl mfl_X1_22 rfl rfl dX1_draw_69 ?_
  refine lv_ior hx hb dX1_draw_72 ?_
  refine lv_fixi (y := 0) (by decide) ?_
  refine lv_istore (lv' := [(6, .int 0), (0, .ref ph0), (1, .int px25), (2, .int px26), (3, .int px27), (4, .int px28), (5, .int 0)]) hx hb dX1_draw_73 hl (by decide) rfl (fun ls hl => ?_)
  refine lv_iconst (v := 0) hx hb dX1_draw_75 (by decide) ?_
  refine lv_istore (lv' := [(7, .int 0), (6, .int 0), (0, .ref ph0), (1, .int px25), (2, .int px26), (3, .int px27), (4, .int px28), (5, .int 0)]) hx hb dX1_draw_76 hl (by decide) rfl (fun ls hl => ?_)
  refine lv_pc (q := 78) rfl ?_
  refine lv_iload hx hb dX1_draw_78 (lv_at hl 0 rfl) ?_
  refine lv_aload_n hx hb dX1_draw_80 rfl (lv_at hl 2 rfl) ?_
  refine uGet (ci := 1) (C := RX1) (T := TX1) (N := 7) (v := .ref ph4) B inlX1 hP 3 rfl rfl 0 rfl mfl_X1_25 rfl rfl dX1_draw_81 ?_
  refine uGet (ci := 4) (C := RX4) (T := TX4) (N := 10) (v := .int 0) B inlX4 hP 4 rfl rfl 9 rfl mfl_X1_56 rfl rfl dX1_draw_84 ?_
  refine lv_icmp_ge (tgt := 160) hx hb dX1_draw_87 (by decide) (fun _ => ?_) (fun h9 => absurd (by decide) h9)
  exact uRv (0, u3, u4, u12, u14) B (Or.inr rfl) (uSub hP [3, 0, 1, 2, 4, 5, 6] rfl) (hD.sub [3, 0, 1, 2, 4, 5, 6] rfl rfl) hS dX1_draw_160
def qkX1_groupsAmong_98 (ph0 : Nat) (pg1 : Nat) (pg2 : Nat) (pg3 : Nat) (pg4 : Nat) (pg5 : Nat) : Int32 → (Unit) → Prop := (fun (r : Int32) (u : Unit) => r = 0)
def vkX1_groupsAmong_98 (K : Nat → ClassId) (ph0 : Nat) (pg1 : Nat) (pg2 : Nat) (pg3 : Nat) (pg4 : Nat) (pg5 : Nat) : (Unit) → va_W := (fun (u : Unit) => [(ph0, .inr (1, [.ref pg1, .ref pg2, .ref pg3, .ref pg4, .ref pg5, .int 0, .int 0]))])
set_option maxHeartbeats 4000000 in
set_option maxRecDepth 100000 in
theorem kX1_groupsAmong_98 (l : Launch) (D : va_G) (K : Nat → ClassId) (sz : Nat) (ph0 : Nat) (pg1 : Nat) (pg2 : Nat) (pg3 : Nat) (pg4 : Nat) (pg5 : Nat) : uMi l yX1_groupsAmong cX1_groupsAmong 5 (some .int) { frames := 0, cells := 0, slots := 0, locals := 0 } [.ref ph0, .int 0] D K [(ph0, .inr (1, [.ref pg1, .ref pg2, .ref pg3, .ref pg4, .ref pg5, .int 0, .int 0]))] sz (qkX1_groupsAmong_98 ph0 pg1 pg2 pg3 pg4 pg5) (vkX1_groupsAmong_98 K ph0 pg1 pg2 pg3 pg4 pg5) := by
  refine uMet (Qc := uQi D (qkX1_groupsAmong_98 ph0 pg1 pg2 pg3 pg4 pg5) (vkX1_groupsAmong_98 K ph0 pg1 pg2 pg3 pg4 pg5)) (ret := (some .int)) (by decide) (Nat.le_of_ble_eq_true rfl) ?_
  intro p e s m below meth c A ls hAe hsz B hP hD hS hl
  have hx := B.1
  have hb := B.2.1
  have hl : lv_has ls 5 [(0, .ref ph0), (1, .int 0)] := hl
  refine lv_iload_n hx hb dX1_groupsAmong_0 rfl (lv_at hl 1 rfl) ?_
  refine lv_istore_n (lv' := [(2, .int 0), (0, .ref ph0), (1, .int 0)]) hx hb dX1_groupsAmong_1 rfl hl (by decide) rfl (fun ls hl => ?_)
  refine lv_iconst (v := 0) hx hb dX1_groupsAmong_2 (by decide) ?_
  refine lv_istore_n (lv' := [(3, .int 0), (2, .int 0), (0, .ref ph0), (1, .int 0)]) hx hb dX1_groupsAmong_3 rfl hl (by decide) rfl (fun ls hl => ?_)
  refine lv_iconst (v := 0) hx hb dX1_groupsAmong_4 (by decide) ?_
  refine lv_pc (q := 5) rfl ?_
  refine lv_istore (lv' := [(4, .int 0), (3, .int 0), (2, .int 0), (0, .ref ph0), (1, .int 0)]) hx hb dX1_groupsAmong_5 hl (by decide) rfl (fun ls hl => ?_)
  refine lv_iload hx hb dX1_groupsAmong_7 (lv_at hl 0 rfl) ?_
  refine lv_bipush (v := 12) hx hb dX1_groupsAmong_9 (by decide) ?_
  refine lv_icmp_ge (tgt := 47) hx hb dX1_groupsAmong_11 (by decide) (fun h9 => absurd h9 (by decide)) (fun _ => ?_)
  refine lv_iload_n hx hb dX1_groupsAmong_14 rfl (lv_at hl 2 rfl) ?_
  refine lv_iload hx hb dX1_groupsAmong_15 (lv_at hl 0 rfl) ?_
  refine lv_pc (q := 17) rfl ?_
  refine lv_ishr hx hb dX1_groupsAmong_17 ?_
  refine lv_fixi (y := 0) (by decide) ?_
  refine lv_iconst (v := 1) hx hb dX1_groupsAmong_18 (by decide) ?_
  refine lv_iand hx hb dX1_groupsAmong_19 ?_
  refine lv_fixi (y := 0) (by decide) ?_
  refine lv_iconst (v := 1) hx hb dX1_groupsAmong_20 (by decide) ?_
  refine lv_icmp_ne (tgt := 41) hx hb dX1_groupsAmong_21 (by decide) (fun _ => ?_) (fun h9 => absurd h9 (by decide))
  refine lv_iinc (v := 1) (lv' := [(4, .int 1), (3, .int 0), (2, .int 0), (0, .ref ph0), (1, .int 0)]) hx hb dX1_groupsAmong_41 hl (k := 0) rfl (by decide) (by decide) rfl (fun ls hl => ?_)
  refine lv_pc (q := 44) rfl ?_
  refine lv_goto (tgt := 7) hx hb dX1_groupsAmong_44 (by decide) ?_
  refine lv_iload hx hb dX1_groupsAmong_7 (lv_at hl 0 rfl) ?_
  refine lv_bipush (v := 12) hx hb dX1_groupsAmong_9 (by decide) ?_
  refine lv_icmp_ge (tgt := 47) hx hb dX1_groupsAmong_11 (by decide) (fun h9 => absurd h9 (by decide)) (fun _ => ?_)
  refine lv_iload_n hx hb dX1_groupsAmong_14 rfl (lv_at hl 2 rfl) ?_
  refine lv_iload hx hb dX1_groupsAmong_15 (lv_at hl 0 rfl) ?_
  refine lv_pc (q := 17) rfl ?_
  refine lv_ishr hx hb dX1_groupsAmong_17 ?_
  refine lv_fixi (y := 0) (by decide) ?_
  refine lv_iconst (v := 1) hx hb dX1_groupsAmong_18 (by decide) ?_
  refine lv_iand hx hb dX1_groupsAmong_19 ?_
  refine lv_fixi (y := 0) (by decide) ?_
  refine lv_iconst (v := 1) hx hb dX1_groupsAmong_20 (by decide) ?_
  refine lv_icmp_ne (tgt := 41) hx hb dX1_groupsAmong_21 (by decide) (fun _ => ?_) (fun h9 => absurd h9 (by decide))
  refine lv_iinc (v := 2) (lv' := [(4, .int 2), (3, .int 0), (2, .int 0), (0, .ref ph0), (1, .int 0)]) hx hb dX1_groupsAmong_41 hl (k := 0) rfl (by decide) (by decide) rfl (fun ls hl => ?_)
  refine lv_pc (q := 44) rfl ?_
  refine lv_goto (tgt := 7) hx hb dX1_groupsAmong_44 (by decide) ?_
  refine lv_iload hx hb dX1_groupsAmong_7 (lv_at hl 0 rfl) ?_
  refine lv_bipush (v := 12) hx hb dX1_groupsAmong_9 (by decide) ?_
  refine lv_icmp_ge (tgt := 47) hx hb dX1_groupsAmong_11 (by decide) (fun h9 => absurd h9 (by decide)) (fun _ => ?_)
  refine lv_iload_n hx hb dX1_groupsAmong_14 rfl (lv_at hl 2 rfl) ?_
  refine lv_iload hx hb dX1_groupsAmong_15 (lv_at hl 0 rfl) ?_
  refine lv_pc (q := 17) rfl ?_
  refine lv_ishr hx hb dX1_groupsAmong_17 ?_
  refine lv_fixi (y := 0) (by decide) ?_
  refine lv_iconst (v := 1) hx hb dX1_groupsAmong_18 (by decide) ?_
  refine lv_iand hx hb dX1_groupsAmong_19 ?_
  refine lv_fixi (y := 0) (by decide) ?_
  refine lv_iconst (v := 1) hx hb dX1_groupsAmong_20 (by decide) ?_
  refine lv_icmp_ne (tgt := 41) hx hb dX1_groupsAmong_21 (by decide) (fun _ => ?_) (fun h9 => absurd h9 (by decide))
  refine lv_iinc (v := 3) (lv' := [(4, .int 3), (3, .int 0), (2, .int 0), (0, .ref ph0), (1, .int 0)]) hx hb dX1_groupsAmong_41 hl (k := 0) rfl (by decide) (by decide) rfl (fun ls hl => ?_)
  refine lv_pc (q := 44) rfl ?_
  refine lv_goto (tgt := 7) hx hb dX1_groupsAmong_44 (by decide) ?_
  refine lv_iload hx hb dX1_groupsAmong_7 (lv_at hl 0 rfl) ?_
  refine lv_bipush (v := 12) hx hb dX1_groupsAmong_9 (by decide) ?_
  refine lv_icmp_ge (tgt := 47) hx hb dX1_groupsAmong_11 (by decide) (fun h9 => absurd h9 (by decide)) (fun _ => ?_)
  refine lv_iload_n hx hb dX1_groupsAmong_14 rfl (lv_at hl 2 rfl) ?_
  refine lv_iload hx hb dX1_groupsAmong_15 (lv_at hl 0 rfl) ?_
  refine lv_pc (q := 17) rfl ?_
  refine lv_ishr hx hb dX1_groupsAmong_17 ?_
  refine lv_fixi (y := 0) (by decide) ?_
  refine lv_iconst (v := 1) hx hb dX1_groupsAmong_18 (by decide) ?_
  refine lv_iand hx hb dX1_groupsAmong_19 ?_
  refine lv_fixi (y := 0) (by decide) ?_
  refine lv_iconst (v := 1) hx hb dX1_groupsAmong_20 (by decide) ?_
  refine lv_icmp_ne (tgt := 41) hx hb dX1_groupsAmong_21 (by decide) (fun _ => ?_) (fun h9 => absurd h9 (by decide))
  refine lv_iinc (v := 4) (lv' := [(4, .int 4), (3, .int 0), (2, .int 0), (0, .ref ph0), (1, .int 0)]) hx hb dX1_groupsAmong_41 hl (k := 0) rfl (by decide) (by decide) rfl (fun ls hl => ?_)
  refine lv_pc (q := 44) rfl ?_
  refine lv_goto (tgt := 7) hx hb dX1_groupsAmong_44 (by decide) ?_
  refine lv_iload hx hb dX1_groupsAmong_7 (lv_at hl 0 rfl) ?_
  refine lv_bipush (v := 12) hx hb dX1_groupsAmong_9 (by decide) ?_
  refine lv_icmp_ge (tgt := 47) hx hb dX1_groupsAmong_11 (by decide) (fun h9 => absurd h9 (by decide)) (fun _ => ?_)
  refine lv_iload_n hx hb dX1_groupsAmong_14 rfl (lv_at hl 2 rfl) ?_
  refine lv_iload hx hb dX1_groupsAmong_15 (lv_at hl 0 rfl) ?_
  refine lv_pc (q := 17) rfl ?_
  refine lv_ishr hx hb dX1_groupsAmong_17 ?_
  refine lv_fixi (y := 0) (by decide) ?_
  refine lv_iconst (v := 1) hx hb dX1_groupsAmong_18 (by decide) ?_
  refine lv_iand hx hb dX1_groupsAmong_19 ?_
  refine lv_fixi (y := 0) (by decide) ?_
  refine lv_iconst (v := 1) hx hb dX1_groupsAmong_20 (by decide) ?_
  refine lv_icmp_ne (tgt := 41) hx hb dX1_groupsAmong_21 (by decide) (fun _ => ?_) (fun h9 => absurd h9 (by decide))
  refine lv_iinc (v := 5) (lv' := [(4, .int 5), (3, .int 0), (2, .int 0), (0, .ref ph0), (1, .int 0)]) hx hb dX1_groupsAmong_41 hl (k := 0) rfl (by decide) (by decide) rfl (fun ls hl => ?_)
  refine lv_pc (q := 44) rfl ?_
  refine lv_goto (tgt := 7) hx hb dX1_groupsAmong_44 (by decide) ?_
  refine lv_iload hx hb dX1_groupsAmong_7 (lv_at hl 0 rfl) ?_
  refine lv_bipush (v := 12) hx hb dX1_groupsAmong_9 (by decide) ?_
  refine lv_icmp_ge (tgt := 47) hx hb dX1_groupsAmong_11 (by decide) (fun h9 => absurd h9 (by decide)) (fun _ => ?_)
  refine lv_iload_n hx hb dX1_groupsAmong_14 rfl (lv_at hl 2 rfl) ?_
  refine lv_iload hx hb dX1_groupsAmong_15 (lv_at hl 0 rfl) ?_
  refine lv_pc (q := 17) rfl ?_
  refine lv_ishr hx hb dX1_groupsAmong_17 ?_
  refine lv_fixi (y := 0) (by decide) ?_
  refine lv_iconst (v := 1) hx hb dX1_groupsAmong_18 (by decide) ?_
  refine lv_iand hx hb dX1_groupsAmong_19 ?_
  refine lv_fixi (y := 0) (by decide) ?_
  refine lv_iconst (v := 1) hx hb dX1_groupsAmong_20 (by decide) ?_
  refine lv_icmp_ne (tgt := 41) hx hb dX1_groupsAmong_21 (by decide) (fun _ => ?_) (fun h9 => absurd h9 (by decide))
  refine lv_iinc (v := 6) (lv' := [(4, .int 6), (3, .int 0), (2, .int 0), (0, .ref ph0), (1, .int 0)]) hx hb dX1_groupsAmong_41 hl (k := 0) rfl (by decide) (by decide) rfl (fun ls hl => ?_)
  refine lv_pc (q := 44) rfl ?_
  refine lv_goto (tgt := 7) hx hb dX1_groupsAmong_44 (by decide) ?_
  refine lv_iload hx hb dX1_groupsAmong_7 (lv_at hl 0 rfl) ?_
  refine lv_bipush (v := 12) hx hb dX1_groupsAmong_9 (by decide) ?_
  refine lv_icmp_ge (tgt := 47) hx hb dX1_groupsAmong_11 (by decide) (fun h9 => absurd h9 (by decide)) (fun _ => ?_)
  refine lv_iload_n hx hb dX1_groupsAmong_14 rfl (lv_at hl 2 rfl) ?_
  refine lv_iload hx hb dX1_groupsAmong_15 (lv_at hl 0 rfl) ?_
  refine lv_pc (q := 17) rfl ?_
  refine lv_ishr hx hb dX1_groupsAmong_17 ?_
  refine lv_fixi (y := 0) (by decide) ?_
  refine lv_iconst (v := 1) hx hb dX1_groupsAmong_18 (by decide) ?_
  refine lv_iand hx hb dX1_groupsAmong_19 ?_
  refine lv_fixi (y := 0) (by decide) ?_
  refine lv_iconst (v := 1) hx hb dX1_groupsAmong_20 (by decide) ?_
  refine lv_icmp_ne (tgt := 41) hx hb dX1_groupsAmong_21 (by decide) (fun _ => ?_) (fun h9 => absurd h9 (by decide))
  refine lv_iinc (v := 7) (lv' := [(4, .int 7), (3, .int 0), (2, .int 0), (0, .ref ph0), (1, .int 0)]) hx hb dX1_groupsAmong_41 hl (k := 0) rfl (by decide) (by decide) rfl (fun ls hl => ?_)
  refine lv_pc (q := 44) rfl ?_
  refine lv_goto (tgt := 7) hx hb dX1_groupsAmong_44 (by decide) ?_
  refine lv_iload hx hb dX1_groupsAmong_7 (lv_at hl 0 rfl) ?_
  refine lv_bipush (v := 12) hx hb dX1_groupsAmong_9 (by decide) ?_
  refine lv_icmp_ge (tgt := 47) hx hb dX1_groupsAmong_11 (by decide) (fun h9 => absurd h9 (by decide)) (fun _ => ?_)
  refine lv_iload_n hx hb dX1_groupsAmong_14 rfl (lv_at hl 2 rfl) ?_
  refine lv_iload hx hb dX1_groupsAmong_15 (lv_at hl 0 rfl) ?_
  refine lv_pc (q := 17) rfl ?_
  refine lv_ishr hx hb dX1_groupsAmong_17 ?_
  refine lv_fixi (y := 0) (by decide) ?_
  refine lv_iconst (v := 1) hx hb dX1_groupsAmong_18 (by decide) ?_
  refine lv_iand hx hb dX1_groupsAmong_19 ?_
  refine lv_fixi (y := 0) (by decide) ?_
  refine lv_iconst (v := 1) hx hb dX1_groupsAmong_20 (by decide) ?_
  refine lv_icmp_ne (tgt := 41) hx hb dX1_groupsAmong_21 (by decide) (fun _ => ?_) (fun h9 => absurd h9 (by decide))
  refine lv_iinc (v := 8) (lv' := [(4, .int 8), (3, .int 0), (2, .int 0), (0, .ref ph0), (1, .int 0)]) hx hb dX1_groupsAmong_41 hl (k := 0) rfl (by decide) (by decide) rfl (fun ls hl => ?_)
  refine lv_pc (q := 44) rfl ?_
  refine lv_goto (tgt := 7) hx hb dX1_groupsAmong_44 (by decide) ?_
  refine lv_iload hx hb dX1_groupsAmong_7 (lv_at hl 0 rfl) ?_
  refine lv_bipush (v := 12) hx hb dX1_groupsAmong_9 (by decide) ?_
  refine lv_icmp_ge (tgt := 47) hx hb dX1_groupsAmong_11 (by decide) (fun h9 => absurd h9 (by decide)) (fun _ => ?_)
  refine lv_iload_n hx hb dX1_groupsAmong_14 rfl (lv_at hl 2 rfl) ?_
  refine lv_iload hx hb dX1_groupsAmong_15 (lv_at hl 0 rfl) ?_
  refine lv_pc (q := 17) rfl ?_
  refine lv_ishr hx hb dX1_groupsAmong_17 ?_
  refine lv_fixi (y := 0) (by decide) ?_
  refine lv_iconst (v := 1) hx hb dX1_groupsAmong_18 (by decide) ?_
  refine lv_iand hx hb dX1_groupsAmong_19 ?_
  refine lv_fixi (y := 0) (by decide) ?_
  refine lv_iconst (v := 1) hx hb dX1_groupsAmong_20 (by decide) ?_
  refine lv_icmp_ne (tgt := 41) hx hb dX1_groupsAmong_21 (by decide) (fun _ => ?_) (fun h9 => absurd h9 (by decide))
  refine lv_iinc (v := 9) (lv' := [(4, .int 9), (3, .int 0), (2, .int 0), (0, .ref ph0), (1, .int 0)]) hx hb dX1_groupsAmong_41 hl (k := 0) rfl (by decide) (by decide) rfl (fun ls hl => ?_)
  refine lv_pc (q := 44) rfl ?_
  refine lv_goto (tgt := 7) hx hb dX1_groupsAmong_44 (by decide) ?_
  refine lv_iload hx hb dX1_groupsAmong_7 (lv_at hl 0 rfl) ?_
  refine lv_bipush (v := 12) hx hb dX1_groupsAmong_9 (by decide) ?_
  refine lv_icmp_ge (tgt := 47) hx hb dX1_groupsAmong_11 (by decide) (fun h9 => absurd h9 (by decide)) (fun _ => ?_)
  refine lv_iload_n hx hb dX1_groupsAmong_14 rfl (lv_at hl 2 rfl) ?_
  refine lv_iload hx hb dX1_groupsAmong_15 (lv_at hl 0 rfl) ?_
  refine lv_pc (q := 17) rfl ?_
  refine lv_ishr hx hb dX1_groupsAmong_17 ?_
  refine lv_fixi (y := 0) (by decide) ?_
  refine lv_iconst (v := 1) hx hb dX1_groupsAmong_18 (by decide) ?_
  refine lv_iand hx hb dX1_groupsAmong_19 ?_
  refine lv_fixi (y := 0) (by decide) ?_
  refine lv_iconst (v := 1) hx hb dX1_groupsAmong_20 (by decide) ?_
  refine lv_icmp_ne (tgt := 41) hx hb dX1_groupsAmong_21 (by decide) (fun _ => ?_) (fun h9 => absurd h9 (by decide))
  refine lv_iinc (v := 10) (lv' := [(4, .int 10), (3, .int 0), (2, .int 0), (0, .ref ph0), (1, .int 0)]) hx hb dX1_groupsAmong_41 hl (k := 0) rfl (by decide) (by decide) rfl (fun ls hl => ?_)
  refine lv_pc (q := 44) rfl ?_
  refine lv_goto (tgt := 7) hx hb dX1_groupsAmong_44 (by decide) ?_
  refine lv_iload hx hb dX1_groupsAmong_7 (lv_at hl 0 rfl) ?_
  refine lv_bipush (v := 12) hx hb dX1_groupsAmong_9 (by decide) ?_
  refine lv_icmp_ge (tgt := 47) hx hb dX1_groupsAmong_11 (by decide) (fun h9 => absurd h9 (by decide)) (fun _ => ?_)
  refine lv_iload_n hx hb dX1_groupsAmong_14 rfl (lv_at hl 2 rfl) ?_
  refine lv_iload hx hb dX1_groupsAmong_15 (lv_at hl 0 rfl) ?_
  refine lv_pc (q := 17) rfl ?_
  refine lv_ishr hx hb dX1_groupsAmong_17 ?_
  refine lv_fixi (y := 0) (by decide) ?_
  refine lv_iconst (v := 1) hx hb dX1_groupsAmong_18 (by decide) ?_
  refine lv_iand hx hb dX1_groupsAmong_19 ?_
  refine lv_fixi (y := 0) (by decide) ?_
  refine lv_iconst (v := 1) hx hb dX1_groupsAmong_20 (by decide) ?_
  refine lv_icmp_ne (tgt := 41) hx hb dX1_groupsAmong_21 (by decide) (fun _ => ?_) (fun h9 => absurd h9 (by decide))
  refine lv_iinc (v := 11) (lv' := [(4, .int 11), (3, .int 0), (2, .int 0), (0, .ref ph0), (1, .int 0)]) hx hb dX1_groupsAmong_41 hl (k := 0) rfl (by decide) (by decide) rfl (fun ls hl => ?_)
  refine lv_pc (q := 44) rfl ?_
  refine lv_goto (tgt := 7) hx hb dX1_groupsAmong_44 (by decide) ?_
  refine lv_iload hx hb dX1_groupsAmong_7 (lv_at hl 0 rfl) ?_
  refine lv_bipush (v := 12) hx hb dX1_groupsAmong_9 (by decide) ?_
  refine lv_icmp_ge (tgt := 47) hx hb dX1_groupsAmong_11 (by decide) (fun h9 => absurd h9 (by decide)) (fun _ => ?_)
  refine lv_iload_n hx hb dX1_groupsAmong_14 rfl (lv_at hl 2 rfl) ?_
  refine lv_iload hx hb dX1_groupsAmong_15 (lv_at hl 0 rfl) ?_
  refine lv_pc (q := 17) rfl ?_
  refine lv_ishr hx hb dX1_groupsAmong_17 ?_
  refine lv_fixi (y := 0) (by decide) ?_
  refine lv_iconst (v := 1) hx hb dX1_groupsAmong_18 (by decide) ?_
  refine lv_iand hx hb dX1_groupsAmong_19 ?_
  refine lv_fixi (y := 0) (by decide) ?_
  refine lv_iconst (v := 1) hx hb dX1_groupsAmong_20 (by decide) ?_
  refine lv_icmp_ne (tgt := 41) hx hb dX1_groupsAmong_21 (by decide) (fun _ => ?_) (fun h9 => absurd h9 (by decide))
  refine lv_iinc (v := 12) (lv' := [(4, .int 12), (3, .int 0), (2, .int 0), (0, .ref ph0), (1, .int 0)]) hx hb dX1_groupsAmong_41 hl (k := 0) rfl (by decide) (by decide) rfl (fun ls hl => ?_)
  refine lv_pc (q := 44) rfl ?_
  refine lv_goto (tgt := 7) hx hb dX1_groupsAmong_44 (by decide) ?_
  refine lv_iload hx hb dX1_groupsAmong_7 (lv_at hl 0 rfl) ?_
  refine lv_bipush (v := 12) hx hb dX1_groupsAmong_9 (by decide) ?_
  refine lv_icmp_ge (tgt := 47) hx hb dX1_groupsAmong_11 (by decide) (fun _ => ?_) (fun h9 => absurd (by decide) h9)
  refine lv_iload_n hx hb dX1_groupsAmong_47 rfl (lv_at hl 1 rfl) ?_
  exact uRi () B rfl (uSub hP [0] rfl) (hD.sub [0] rfl rfl) hS dX1_groupsAmong_48
def qkX11_groups_99 (ph0 : Nat) (ph1 : Nat) (ph2 : Nat) (ph3 : Nat) (ph4 : Nat) (ph5 : Nat) (ph6 : Nat) (ph7 : Nat) (pg8 : Nat) (pg9 : Nat) (pg10 : Nat) (pg11 : Nat) (pg12 : Nat) (pg13 : Nat) (pg14 : Nat) (pg15 : Nat) (pg16 : Nat) (pg17 : Nat) (pg18 : Nat) (pg19 : Nat) (pf20 : Nat → Int32) (pf21 : Nat → Int32) (pg22 : Nat) (pg23 : Nat) (pg24 : Nat) (pg25 : Nat) (pg26 : Nat) (pg27 : Nat) (pg28 : Nat) (pg29 : Nat) (pf30 : Nat → Int32) (pf31 : Nat → Int32) (px32 : Int32) (px33 : Int32) (px34 : Int32) (px35 : Int32) : Int32 → (Unit) → Prop := (fun (r : Int32) (u : Unit) => (r = (-1) ∧ (((((px32 < 0) ∨ (¬ px32 < 0 ∧ 12 ≤ px32) ∨ (¬ px32 < 0 ∧ ¬ 12 ≤ px32 ∧ px33 < 0) ∨ (¬ px32 < 0 ∧ ¬ 12 ≤ px32 ∧ ¬ px33 < 0 ∧ 2 ≤ px33))) ∨ (¬ px32 < 0 ∧ ¬ 12 ≤ px32 ∧ ¬ px33 < 0 ∧ ¬ 2 ≤ px33 ∧ ((px34 < 0) ∨ (¬ px34 < 0 ∧ 500 < px34))) ∨ (¬ px32 < 0 ∧ ¬ 12 ≤ px32 ∧ ¬ px33 < 0 ∧ ¬ 2 ≤ px33 ∧ ¬ px34 < 0 ∧ ¬ 500 < px34 ∧ ¬ px35 = 1 ∧ ¬ px35 = 2)))) ∨ (r = 0 ∧ ((((¬ px32 < 0 ∧ ¬ 12 ≤ px32 ∧ ¬ px33 < 0 ∧ ¬ 2 ≤ px33 ∧ ¬ px34 < 0 ∧ ¬ 500 < px34 ∧ px35 = 1) ∨ (¬ px32 < 0 ∧ ¬ 12 ≤ px32 ∧ ¬ px33 < 0 ∧ ¬ 2 ≤ px33 ∧ ¬ px34 < 0 ∧ ¬ 500 < px34 ∧ ¬ px35 = 1 ∧ px35 = 2))) ∨ (((¬ px32 < 0 ∧ ¬ 12 ≤ px32 ∧ ¬ px33 < 0 ∧ ¬ 2 ≤ px33 ∧ ¬ px34 < 0 ∧ ¬ 500 < px34 ∧ px35 = 1) ∨ (¬ px32 < 0 ∧ ¬ 12 ≤ px32 ∧ ¬ px33 < 0 ∧ ¬ 2 ≤ px33 ∧ ¬ px34 < 0 ∧ ¬ 500 < px34 ∧ ¬ px35 = 1 ∧ px35 = 2))))))
def vkX11_groups_99 (K : Nat → ClassId) (ph0 : Nat) (ph1 : Nat) (ph2 : Nat) (ph3 : Nat) (ph4 : Nat) (ph5 : Nat) (ph6 : Nat) (ph7 : Nat) (pg8 : Nat) (pg9 : Nat) (pg10 : Nat) (pg11 : Nat) (pg12 : Nat) (pg13 : Nat) (pg14 : Nat) (pg15 : Nat) (pg16 : Nat) (pg17 : Nat) (pg18 : Nat) (pg19 : Nat) (pf20 : Nat → Int32) (pf21 : Nat → Int32) (pg22 : Nat) (pg23 : Nat) (pg24 : Nat) (pg25 : Nat) (pg26 : Nat) (pg27 : Nat) (pg28 : Nat) (pg29 : Nat) (pf30 : Nat → Int32) (pf31 : Nat → Int32) (px32 : Int32) (px33 : Int32) (px34 : Int32) (px35 : Int32) : (Unit) → va_W := (fun (u : Unit) => [])
set_option maxHeartbeats 4000000 in
set_option maxRecDepth 100000 in
theorem kX11_groups_99 (l : Launch) (D : va_G) (K : Nat → ClassId) (sz : Nat) (ph0 : Nat) (ph1 : Nat) (ph2 : Nat) (ph3 : Nat) (ph4 : Nat) (ph5 : Nat) (ph6 : Nat) (ph7 : Nat) (pg8 : Nat) (pg9 : Nat) (pg10 : Nat) (pg11 : Nat) (pg12 : Nat) (pg13 : Nat) (pg14 : Nat) (pg15 : Nat) (pg16 : Nat) (pg17 : Nat) (pg18 : Nat) (pg19 : Nat) (pf20 : Nat → Int32) (pf21 : Nat → Int32) (pg22 : Nat) (pg23 : Nat) (pg24 : Nat) (pg25 : Nat) (pg26 : Nat) (pg27 : Nat) (pg28 : Nat) (pg29 : Nat) (pf30 : Nat → Int32) (pf31 : Nat → Int32) (px32 : Int32) (px33 : Int32) (px34 : Int32) (px35 : Int32) : uMi l yX11_groups cX11_groups 5 (some .int) { frames := 6, cells := 0, slots := 0, locals := 134 } [.ref ph0, .int px32, .int px33, .int px34, .int px35] D K [(ph0, .inr (11, [.ref pg8, .ref ph5, .ref pg9, .ref ph2, .ref ph1, .ref pg10, .ref pg11, .ref pg12, .ref pg13, .ref pg14, .ref pg15])), (ph1, .inr (1, [.ref ph5, .ref ph2, .ref pg9, .ref ph6, .ref ph7, .int 0, .int 0])), (ph2, .inr (3, [.ref pg16, .ref pg17, .ref pg18, .ref pg19, .ref ph3, .ref ph4, .int 0, .int (-1), .int 1, .int 0])), (ph3, .inl (K 0, 24, .inl pf20)), (ph4, .inl (K 0, 24, .inl pf21)), (ph5, .inr (4, [.ref pg8, .ref pg22, .ref pg23, .ref pg24, .ref pg25, .ref pg26, .ref pg27, .ref pg28, .ref pg29, .int 0])), (ph6, .inl (K 0, 12, .inl pf30)), (ph7, .inl (K 0, 12, .inl pf31))] sz (qkX11_groups_99 ph0 ph1 ph2 ph3 ph4 ph5 ph6 ph7 pg8 pg9 pg10 pg11 pg12 pg13 pg14 pg15 pg16 pg17 pg18 pg19 pf20 pf21 pg22 pg23 pg24 pg25 pg26 pg27 pg28 pg29 pf30 pf31 px32 px33 px34 px35) (vkX11_groups_99 K ph0 ph1 ph2 ph3 ph4 ph5 ph6 ph7 pg8 pg9 pg10 pg11 pg12 pg13 pg14 pg15 pg16 pg17 pg18 pg19 pf20 pf21 pg22 pg23 pg24 pg25 pg26 pg27 pg28 pg29 pf30 pf31 px32 px33 px34 px35) := by
  refine uMet (Qc := uQi D (qkX11_groups_99 ph0 ph1 ph2 ph3 ph4 ph5 ph6 ph7 pg8 pg9 pg10 pg11 pg12 pg13 pg14 pg15 pg16 pg17 pg18 pg19 pf20 pf21 pg22 pg23 pg24 pg25 pg26 pg27 pg28 pg29 pf30 pf31 px32 px33 px34 px35) (vkX11_groups_99 K ph0 ph1 ph2 ph3 ph4 ph5 ph6 ph7 pg8 pg9 pg10 pg11 pg12 pg13 pg14 pg15 pg16 pg17 pg18 pg19 pf20 pf21 pg22 pg23 pg24 pg25 pg26 pg27 pg28 pg29 pf30 pf31 px32 px33 px34 px35)) (ret := (some .int)) (by decide) (Nat.le_of_ble_eq_true rfl) ?_
  intro p e s m below meth c A ls hAe hsz B hP hD hS hl
  have hx := B.1
  have hb := B.2.1
  have hl : lv_has ls 5 [(0, .ref ph0), (1, .int px32), (2, .int px33), (3, .int px34), (4, .int px35)] := hl
  refine lv_iload_n hx hb dX11_groups_0 rfl (lv_at hl 1 rfl) ?_
  refine lv_iload_n hx hb dX11_groups_1 rfl (lv_at hl 2 rfl) ?_
  refine lv_iload_n hx hb dX11_groups_2 rfl (lv_at hl 3 rfl) ?_
  refine lv_iload hx hb dX11_groups_3 (lv_at hl 4 rfl) ?_
  refine uSi (As := [.int px32, .int px33, .int px34, .int px35]) (rest := []) (wr := [(ph0, .inr (11, [.ref pg8, .ref ph5, .ref pg9, .ref ph2, .ref ph1, .ref pg10, .ref pg11, .ref pg12, .ref pg13, .ref pg14, .ref pg15])), (ph1, .inr (1, [.ref ph5, .ref ph2, .ref pg9, .ref ph6, .ref ph7, .int 0, .int 0])), (ph2, .inr (3, [.ref pg16, .ref pg17, .ref pg18, .ref pg19, .ref ph3, .ref ph4, .int 0, .int (-1), .int 1, .int 0])), (ph3, .inl (K 0, 24, .inl pf20)), (ph4, .inl (K 0, 24, .inl pf21)), (ph5, .inr (4, [.ref pg8, .ref pg22, .ref pg23, .ref pg24, .ref pg25, .ref pg26, .ref pg27, .ref pg28, .ref pg29, .int 0])), (ph6, .inl (K 0, 12, .inl pf30)), (ph7, .inl (K 0, 12, .inl pf31))]) [] B hl.1 hP hD hS [] [0, 1, 2, 3, 4, 5, 6, 7] rfl rfl rfl (kX11_isLine_83 l D K _ px32 px33 px34 px35) wd_X11_isLine mml_X11_182 rfl rfl ⟨Nat.le_of_ble_eq_true rfl, Nat.le_of_ble_eq_true rfl⟩ (Nat.le_of_ble_eq_true rfl) ⟨Nat.le_of_ble_eq_true rfl, Nat.le_of_ble_eq_true rfl⟩ dX11_groups_5 (fun r1 u H locs hw hP hD hS => ?_)
  try dsimp only at hw
  rcases hw with ⟨rfl, w2⟩ | ⟨rfl, w3⟩
  · have hP : va_P D vwCl [(ph0, .inr (11, [.ref pg8, .ref ph5, .ref pg9, .ref ph2, .ref ph1, .ref pg10, .ref pg11, .ref pg12, .ref pg13, .ref pg14, .ref pg15])), (ph1, .inr (1, [.ref ph5, .ref ph2, .ref pg9, .ref ph6, .ref ph7, .int 0, .int 0])), (ph2, .inr (3, [.ref pg16, .ref pg17, .ref pg18, .ref pg19, .ref ph3, .ref ph4, .int 0, .int (-1), .int 1, .int 0])), (ph3, .inl (K 0, 24, .inl pf20)), (ph4, .inl (K 0, 24, .inl pf21)), (ph5, .inr (4, [.ref pg8, .ref pg22, .ref pg23, .ref pg24, .ref pg25, .ref pg26, .ref pg27, .ref pg28, .ref pg29, .int 0])), (ph6, .inl (K 0, 12, .inl pf30)), (ph7, .inl (K 0, 12, .inl pf31))] H := hP
    have hD : va_D A [(ph0, .inr (11, [.ref pg8, .ref ph5, .ref pg9, .ref ph2, .ref ph1, .ref pg10, .ref pg11, .ref pg12, .ref pg13, .ref pg14, .ref pg15])), (ph1, .inr (1, [.ref ph5, .ref ph2, .ref pg9, .ref ph6, .ref ph7, .int 0, .int 0])), (ph2, .inr (3, [.ref pg16, .ref pg17, .ref pg18, .ref pg19, .ref ph3, .ref ph4, .int 0, .int (-1), .int 1, .int 0])), (ph3, .inl (K 0, 24, .inl pf20)), (ph4, .inl (K 0, 24, .inl pf21)), (ph5, .inr (4, [.ref pg8, .ref pg22, .ref pg23, .ref pg24, .ref pg25, .ref pg26, .ref pg27, .ref pg28, .ref pg29, .int 0])), (ph6, .inl (K 0, 12, .inl pf30)), (ph7, .inl (K 0, 12, .inl pf31))] := hD
    refine lv_pc (q := 8) rfl ?_
    refine lv_if_ne (tgt := 13) hx hb dX11_groups_8 (by decide) (fun h9 => absurd (by decide) h9) (fun _ => ?_)
    refine lv_iconst (v := (-1)) hx hb dX11_groups_11 (by decide) ?_
    exact uRi () B (Or.inl ⟨rfl, w2⟩) (uSub hP [] rfl) (hD.sub [] rfl rfl) hS dX11_groups_12
  have hP : va_P D vwCl [(ph0, .inr (11, [.ref pg8, .ref ph5, .ref pg9, .ref ph2, .ref ph1, .ref pg10, .ref pg11, .ref pg12, .ref pg13, .ref pg14, .ref pg15])), (ph1, .inr (1, [.ref ph5, .ref ph2, .ref pg9, .ref ph6, .ref ph7, .int 0, .int 0])), (ph2, .inr (3, [.ref pg16, .ref pg17, .ref pg18, .ref pg19, .ref ph3, .ref ph4, .int 0, .int (-1), .int 1, .int 0])), (ph3, .inl (K 0, 24, .inl pf20)), (ph4, .inl (K 0, 24, .inl pf21)), (ph5, .inr (4, [.ref pg8, .ref pg22, .ref pg23, .ref pg24, .ref pg25, .ref pg26, .ref pg27, .ref pg28, .ref pg29, .int 0])), (ph6, .inl (K 0, 12, .inl pf30)), (ph7, .inl (K 0, 12, .inl pf31))] H := hP
  have hD : va_D A [(ph0, .inr (11, [.ref pg8, .ref ph5, .ref pg9, .ref ph2, .ref ph1, .ref pg10, .ref pg11, .ref pg12, .ref pg13, .ref pg14, .ref pg15])), (ph1, .inr (1, [.ref ph5, .ref ph2, .ref pg9, .ref ph6, .ref ph7, .int 0, .int 0])), (ph2, .inr (3, [.ref pg16, .ref pg17, .ref pg18, .ref pg19, .ref ph3, .ref ph4, .int 0, .int (-1), .int 1, .int 0])), (ph3, .inl (K 0, 24, .inl pf20)), (ph4, .inl (K 0, 24, .inl pf21)), (ph5, .inr (4, [.ref pg8, .ref pg22, .ref pg23, .ref pg24, .ref pg25, .ref pg26, .ref pg27, .ref pg28, .ref pg29, .int 0])), (ph6, .inl (K 0, 12, .inl pf30)), (ph7, .inl (K 0, 12, .inl pf31))] := hD
  refine lv_pc (q := 8) rfl ?_
  refine lv_if_ne (tgt := 13) hx hb dX11_groups_8 (by decide) (fun _ => ?_) (fun h9 => absurd h9 (by decide))
  refine lv_aload_n hx hb dX11_groups_13 rfl (lv_at hl 0 rfl) ?_
  refine uGet (ci := 11) (C := RX11) (T := TX11) (N := 11) (v := .ref ph1) B inlX11 hP 0 rfl rfl 4 rfl mfl_X11_46 rfl rfl dX11_groups_14 ?_
  refine lv_iload_n hx hb dX11_groups_17 rfl (lv_at hl 1 rfl) ?_
  refine lv_iload_n hx hb dX11_groups_18 rfl (lv_at hl 2 rfl) ?_
  refine lv_iload_n hx hb dX11_groups_19 rfl (lv_at hl 3 rfl) ?_
  refine lv_pc (q := 20) rfl ?_
  refine lv_iload hx hb dX11_groups_20 (lv_at hl 4 rfl) ?_
  refine lv_iconst (v := 0) hx hb dX11_groups_22 (by decide) ?_
  refine uVv (As := [.int px32, .int px33, .int px34, .int px35, .int 0]) (rest := []) (wr := [(ph0, .inr (11, [.ref pg8, .ref ph5, .ref pg9, .ref ph2, .ref ph1, .ref pg10, .ref pg11, .ref pg12, .ref pg13, .ref pg14, .ref pg15]))]) [(ph1, .inr (1, [.ref ph5, .ref ph2, .ref pg9, .ref ph6, .ref ph7, .int 0, .int 0])), (ph2, .inr (3, [.ref pg16, .ref pg17, .ref pg18, .ref pg19, .ref ph3, .ref ph4, .int 0, .int (-1), .int 1, .int 0])), (ph3, .inl (K 0, 24, .inl pf20)), (ph4, .inl (K 0, 24, .inl pf21)), (ph5, .inr (4, [.ref pg8, .ref pg22, .ref pg23, .ref pg24, .ref pg25, .ref pg26, .ref pg27, .ref pg28, .ref pg29, .int 0])), (ph6, .inl (K 0, 12, .inl pf30)), (ph7, .inl (K 0, 12, .inl pf31))] B hl.1 hP hD hS [1, 2, 3, 4, 5, 6, 7] [0] rfl rfl rfl (kX1_draw_97 l D K _ ph1 ph2 ph3 ph4 ph5 ph6 ph7 pg9 pg16 pg17 pg18 pg19 pf20 pf21 pg8 pg22 pg23 pg24 pg25 pg26 pg27 pg28 pg29 pf30 pf31 px32 px33 px34 px35) wd_X1_draw mml_X11_185 rfl rfl rfl rfl ⟨Nat.le_of_ble_eq_true rfl, Nat.le_of_ble_eq_true rfl⟩ (Nat.le_of_ble_eq_true rfl) ⟨Nat.le_of_ble_eq_true rfl, Nat.le_of_ble_eq_true rfl⟩ dX11_groups_23 (fun u H locs hw hP hD hS => ?_)
  obtain ⟨u5, u6, u7, u8, u9⟩ := u
  try dsimp only at hw
  rcases hw with rfl | rfl
  · have hP : va_P D vwCl [(ph0, .inr (11, [.ref pg8, .ref ph5, .ref pg9, .ref ph2, .ref ph1, .ref pg10, .ref pg11, .ref pg12, .ref pg13, .ref pg14, .ref pg15])), (ph1, .inr (1, [.ref ph5, .ref ph2, .ref pg9, .ref ph6, .ref ph7, .int 0, .int 0])), (ph2, .inr (3, [.ref pg16, .ref pg17, .ref pg18, .ref pg19, .ref ph3, .ref ph4, .int 0, .int 0, .int 1, .int 0])), (ph3, .inl (K 0, 24, .inl u6)), (ph4, .inl (K 0, 24, .inl u7)), (ph5, .inr (4, [.ref pg8, .ref pg22, .ref pg23, .ref pg24, .ref pg25, .ref pg26, .ref pg27, .ref pg28, .ref pg29, .int 0])), (ph6, .inl (K 0, 12, .inl u8)), (ph7, .inl (K 0, 12, .inl u9))] H := hP
    have hD : va_D A [(ph0, .inr (11, [.ref pg8, .ref ph5, .ref pg9, .ref ph2, .ref ph1, .ref pg10, .ref pg11, .ref pg12, .ref pg13, .ref pg14, .ref pg15])), (ph1, .inr (1, [.ref ph5, .ref ph2, .ref pg9, .ref ph6, .ref ph7, .int 0, .int 0])), (ph2, .inr (3, [.ref pg16, .ref pg17, .ref pg18, .ref pg19, .ref ph3, .ref ph4, .int 0, .int 0, .int 1, .int 0])), (ph3, .inl (K 0, 24, .inl u6)), (ph4, .inl (K 0, 24, .inl u7)), (ph5, .inr (4, [.ref pg8, .ref pg22, .ref pg23, .ref pg24, .ref pg25, .ref pg26, .ref pg27, .ref pg28, .ref pg29, .int 0])), (ph6, .inl (K 0, 12, .inl u8)), (ph7, .inl (K 0, 12, .inl u9))] := hD
    refine lv_aload_n hx hb dX11_groups_26 rfl (lv_at hl 0 rfl) ?_
    refine uGet (ci := 11) (C := RX11) (T := TX11) (N := 11) (v := .ref ph1) B inlX11 hP 0 rfl rfl 4 rfl mfl_X11_46 rfl rfl dX11_groups_27 ?_
    refine lv_aload_n hx hb dX11_groups_30 rfl (lv_at hl 0 rfl) ?_
    refine lv_pc (q := 31) rfl ?_
    refine uGet (ci := 11) (C := RX11) (T := TX11) (N := 11) (v := .ref ph1) B inlX11 hP 0 rfl rfl 4 rfl mfl_X11_46 rfl rfl dX11_groups_31 ?_
    refine uGet (ci := 1) (C := RX1) (T := TX1) (N := 7) (v := .int 0) B inlX1 hP 1 rfl rfl 5 rfl mfl_X11_188 rfl rfl dX11_groups_34 ?_
    refine uVi (As := [.int 0]) (rest := []) (wr := [(ph0, .inr (11, [.ref pg8, .ref ph5, .ref pg9, .ref ph2, .ref ph1, .ref pg10, .ref pg11, .ref pg12, .ref pg13, .ref pg14, .ref pg15])), (ph2, .inr (3, [.ref pg16, .ref pg17, .ref pg18, .ref pg19, .ref ph3, .ref ph4, .int 0, .int 0, .int 1, .int 0])), (ph3, .inl (K 0, 24, .inl u6)), (ph4, .inl (K 0, 24, .inl u7)), (ph5, .inr (4, [.ref pg8, .ref pg22, .ref pg23, .ref pg24, .ref pg25, .ref pg26, .ref pg27, .ref pg28, .ref pg29, .int 0])), (ph6, .inl (K 0, 12, .inl u8)), (ph7, .inl (K 0, 12, .inl u9))]) [(ph1, .inr (1, [.ref ph5, .ref ph2, .ref pg9, .ref ph6, .ref ph7, .int 0, .int 0]))] B hl.1 hP hD hS [1] [0, 2, 3, 4, 5, 6, 7] rfl rfl rfl (kX1_groupsAmong_98 l D K _ ph1 ph5 ph2 pg9 ph6 ph7) wd_X1_groupsAmong mml_X11_191 rfl rfl rfl rfl ⟨Nat.le_of_ble_eq_true rfl, Nat.le_of_ble_eq_true rfl⟩ (Nat.le_of_ble_eq_true rfl) ⟨Nat.le_of_ble_eq_true rfl, Nat.le_of_ble_eq_true rfl⟩ dX11_groups_37 (fun r10 u H locs hw hP hD hS => ?_)
    try dsimp only at hw
    rcases hw with rfl
    have hP : va_P D vwCl [(ph0, .inr (11, [.ref pg8, .ref ph5, .ref pg9, .ref ph2, .ref ph1, .ref pg10, .ref pg11, .ref pg12, .ref pg13, .ref pg14, .ref pg15])), (ph2, .inr (3, [.ref pg16, .ref pg17, .ref pg18, .ref pg19, .ref ph3, .ref ph4, .int 0, .int 0, .int 1, .int 0])), (ph3, .inl (K 0, 24, .inl u6)), (ph4, .inl (K 0, 24, .inl u7)), (ph5, .inr (4, [.ref pg8, .ref pg22, .ref pg23, .ref pg24, .ref pg25, .ref pg26, .ref pg27, .ref pg28, .ref pg29, .int 0])), (ph6, .inl (K 0, 12, .inl u8)), (ph7, .inl (K 0, 12, .inl u9)), (ph1, .inr (1, [.ref ph5, .ref ph2, .ref pg9, .ref ph6, .ref ph7, .int 0, .int 0]))] H := hP
    have hD : va_D A [(ph0, .inr (11, [.ref pg8, .ref ph5, .ref pg9, .ref ph2, .ref ph1, .ref pg10, .ref pg11, .ref pg12, .ref pg13, .ref pg14, .ref pg15])), (ph2, .inr (3, [.ref pg16, .ref pg17, .ref pg18, .ref pg19, .ref ph3, .ref ph4, .int 0, .int 0, .int 1, .int 0])), (ph3, .inl (K 0, 24, .inl u6)), (ph4, .inl (K 0, 24, .inl u7)), (ph5, .inr (4, [.ref pg8, .ref pg22, .ref pg23, .ref pg24, .ref pg25, .ref pg26, .ref pg27, .ref pg28, .ref pg29, .int 0])), (ph6, .inl (K 0, 12, .inl u8)), (ph7, .inl (K 0, 12, .inl u9)), (ph1, .inr (1, [.ref ph5, .ref ph2, .ref pg9, .ref ph6, .ref ph7, .int 0, .int 0]))] := hD
    exact uRi () B (Or.inr ⟨rfl, Or.inl w3⟩) (uSub hP [] rfl) (hD.sub [] rfl rfl) hS dX11_groups_40
  have hP : va_P D vwCl [(ph0, .inr (11, [.ref pg8, .ref ph5, .ref pg9, .ref ph2, .ref ph1, .ref pg10, .ref pg11, .ref pg12, .ref pg13, .ref pg14, .ref pg15])), (ph1, .inr (1, [.ref ph5, .ref ph2, .ref pg9, .ref ph6, .ref ph7, .int 0, .int 0])), (ph2, .inr (3, [.ref pg16, .ref pg17, .ref pg18, .ref pg19, .ref ph3, .ref ph4, .int 0, .int 0, .int 0, .int 0])), (ph3, .inl (K 0, 24, .inl u6)), (ph4, .inl (K 0, 24, .inl u7)), (ph5, .inr (4, [.ref pg8, .ref pg22, .ref pg23, .ref pg24, .ref pg25, .ref pg26, .ref pg27, .ref pg28, .ref pg29, .int 0])), (ph6, .inl (K 0, 12, .inl u8)), (ph7, .inl (K 0, 12, .inl u9))] H := hP
  have hD : va_D A [(ph0, .inr (11, [.ref pg8, .ref ph5, .ref pg9, .ref ph2, .ref ph1, .ref pg10, .ref pg11, .ref pg12, .ref pg13, .ref pg14, .ref pg15])), (ph1, .inr (1, [.ref ph5, .ref ph2, .ref pg9, .ref ph6, .ref ph7, .int 0, .int 0])), (ph2, .inr (3, [.ref pg16, .ref pg17, .ref pg18, .ref pg19, .ref ph3, .ref ph4, .int 0, .int 0, .int 0, .int 0])), (ph3, .inl (K 0, 24, .inl u6)), (ph4, .inl (K 0, 24, .inl u7)), (ph5, .inr (4, [.ref pg8, .ref pg22, .ref pg23, .ref pg24, .ref pg25, .ref pg26, .ref pg27, .ref pg28, .ref pg29, .int 0])), (ph6, .inl (K 0, 12, .inl u8)), (ph7, .inl (K 0, 12, .inl u9))] := hD
  refine lv_aload_n hx hb dX11_groups_26 rfl (lv_at hl 0 rfl) ?_
  refine uGet (ci := 11) (C := RX11) (T := TX11) (N := 11) (v := .ref ph1) B inlX11 hP 0 rfl rfl 4 rfl mfl_X11_46 rfl rfl dX11_groups_27 ?_
  refine lv_aload_n hx hb dX11_groups_30 rfl (lv_at hl 0 rfl) ?_
  refine lv_pc (q := 31) rfl ?_
  refine uGet (ci := 11) (C := RX11) (T := TX11) (N := 11) (v := .ref ph1) B inlX11 hP 0 rfl rfl 4 rfl mfl_X11_46 rfl rfl dX11_groups_31 ?_
  refine uGet (ci := 1) (C := RX1) (T := TX1) (N := 7) (v := .int 0) B inlX1 hP 1 rfl rfl 5 rfl mfl_X11_188 rfl rfl dX11_groups_34 ?_
  refine uVi (As := [.int 0]) (rest := []) (wr := [(ph0, .inr (11, [.ref pg8, .ref ph5, .ref pg9, .ref ph2, .ref ph1, .ref pg10, .ref pg11, .ref pg12, .ref pg13, .ref pg14, .ref pg15])), (ph2, .inr (3, [.ref pg16, .ref pg17, .ref pg18, .ref pg19, .ref ph3, .ref ph4, .int 0, .int 0, .int 0, .int 0])), (ph3, .inl (K 0, 24, .inl u6)), (ph4, .inl (K 0, 24, .inl u7)), (ph5, .inr (4, [.ref pg8, .ref pg22, .ref pg23, .ref pg24, .ref pg25, .ref pg26, .ref pg27, .ref pg28, .ref pg29, .int 0])), (ph6, .inl (K 0, 12, .inl u8)), (ph7, .inl (K 0, 12, .inl u9))]) [(ph1, .inr (1, [.ref ph5, .ref ph2, .ref pg9, .ref ph6, .ref ph7, .int 0, .int 0]))] B hl.1 hP hD hS [1] [0, 2, 3, 4, 5, 6, 7] rfl rfl rfl (kX1_groupsAmong_98 l D K _ ph1 ph5 ph2 pg9 ph6 ph7) wd_X1_groupsAmong mml_X11_191 rfl rfl rfl rfl ⟨Nat.le_of_ble_eq_true rfl, Nat.le_of_ble_eq_true rfl⟩ (Nat.le_of_ble_eq_true rfl) ⟨Nat.le_of_ble_eq_true rfl, Nat.le_of_ble_eq_true rfl⟩ dX11_groups_37 (fun r11 u H locs hw hP hD hS => ?_)
  try dsimp only at hw
  rcases hw with rfl
  have hP : va_P D vwCl [(ph0, .inr (11, [.ref pg8, .ref ph5, .ref pg9, .ref ph2, .ref ph1, .ref pg10, .ref pg11, .ref pg12, .ref pg13, .ref pg14, .ref pg15])), (ph2, .inr (3, [.ref pg16, .ref pg17, .ref pg18, .ref pg19, .ref ph3, .ref ph4, .int 0, .int 0, .int 0, .int 0])), (ph3, .inl (K 0, 24, .inl u6)), (ph4, .inl (K 0, 24, .inl u7)), (ph5, .inr (4, [.ref pg8, .ref pg22, .ref pg23, .ref pg24, .ref pg25, .ref pg26, .ref pg27, .ref pg28, .ref pg29, .int 0])), (ph6, .inl (K 0, 12, .inl u8)), (ph7, .inl (K 0, 12, .inl u9)), (ph1, .inr (1, [.ref ph5, .ref ph2, .ref pg9, .ref ph6, .ref ph7, .int 0, .int 0]))] H := hP
  have hD : va_D A [(ph0, .inr (11, [.ref pg8, .ref ph5, .ref pg9, .ref ph2, .ref ph1, .ref pg10, .ref pg11, .ref pg12, .ref pg13, .ref pg14, .ref pg15])), (ph2, .inr (3, [.ref pg16, .ref pg17, .ref pg18, .ref pg19, .ref ph3, .ref ph4, .int 0, .int 0, .int 0, .int 0])), (ph3, .inl (K 0, 24, .inl u6)), (ph4, .inl (K 0, 24, .inl u7)), (ph5, .inr (4, [.ref pg8, .ref pg22, .ref pg23, .ref pg24, .ref pg25, .ref pg26, .ref pg27, .ref pg28, .ref pg29, .int 0])), (ph6, .inl (K 0, 12, .inl u8)), (ph7, .inl (K 0, 12, .inl u9)), (ph1, .inr (1, [.ref ph5, .ref ph2, .ref pg9, .ref ph6, .ref ph7, .int 0, .int 0]))] := hD
  exact uRi () B (Or.inr ⟨rfl, Or.inr w3⟩) (uSub hP [] rfl) (hD.sub [] rfl rfl) hS dX11_groups_40
def qkX12_isAsked_100 (px0 : Int32) (px1 : Int32) (px2 : Int32) : Int32 → (Unit) → Prop := (fun (r : Int32) (u : Unit) => (r = 0 ∧ ((((px0 < 0) ∨ (¬ px0 < 0 ∧ 11 < px0) ∨ (¬ px0 < 0 ∧ ¬ 11 < px0 ∧ px1 < 0) ∨ (¬ px0 < 0 ∧ ¬ 11 < px0 ∧ ¬ px1 < 0 ∧ 1 < px1))) ∨ (¬ px0 < 0 ∧ ¬ 11 < px0 ∧ ¬ px1 < 0 ∧ ¬ 1 < px1 ∧ px2 < 0) ∨ (¬ px0 < 0 ∧ ¬ 11 < px0 ∧ ¬ px1 < 0 ∧ ¬ 1 < px1 ∧ ¬ px2 < 0 ∧ 500 < px2))) ∨ (r = 1 ∧ (¬ px0 < 0 ∧ ¬ 11 < px0 ∧ ¬ px1 < 0 ∧ ¬ 1 < px1 ∧ ¬ px2 < 0 ∧ ¬ 500 < px2)))
def vkX12_isAsked_100 (K : Nat → ClassId) (px0 : Int32) (px1 : Int32) (px2 : Int32) : (Unit) → va_W := (fun (u : Unit) => [])
set_option maxHeartbeats 4000000 in
set_option maxRecDepth 100000 in
theorem kX12_isAsked_100 (l : Launch) (D : va_G) (K : Nat → ClassId) (sz : Nat) (px0 : Int32) (px1 : Int32) (px2 : Int32) : uMi l yX12_isAsked cX12_isAsked 3 (some .boolean) { frames := 1, cells := 0, slots := 0, locals := 21 } [.int px0, .int px1, .int px2] D K [] sz (qkX12_isAsked_100 px0 px1 px2) (vkX12_isAsked_100 K px0 px1 px2) := by
  refine uMet (Qc := uQi D (qkX12_isAsked_100 px0 px1 px2) (vkX12_isAsked_100 K px0 px1 px2)) (ret := (some .boolean)) (by decide) (Nat.le_of_ble_eq_true rfl) ?_
  intro p e s m below meth c A ls hAe hsz B hP hD hS hl
  have hx := B.1
  have hb := B.2.1
  have hl : lv_has ls 3 [(0, .int px0), (1, .int px1), (2, .int px2)] := hl
  refine lv_iload_n hx hb dX12_isAsked_0 rfl (lv_at hl 0 rfl) ?_
  refine lv_iload_n hx hb dX12_isAsked_1 rfl (lv_at hl 1 rfl) ?_
  refine uSi (As := [.int px0, .int px1]) (rest := []) (wr := []) [] B hl.1 hP hD hS [] [] rfl rfl rfl (kX12_isTime_46 l D K _ px0 px1) wd_X12_isTime mml_X12_246 rfl rfl ⟨Nat.le_of_ble_eq_true rfl, Nat.le_of_ble_eq_true rfl⟩ (Nat.le_of_ble_eq_true rfl) ⟨Nat.le_of_ble_eq_true rfl, Nat.le_of_ble_eq_true rfl⟩ dX12_isAsked_2 (fun r1 u H locs hw hP hD hS => ?_)
  try dsimp only at hw
  rcases hw with ⟨rfl, w2⟩ | ⟨rfl, ⟨w3, w4, w5, w6⟩⟩
  · have hP : va_P D vwCl [] H := hP
    have hD : va_D A [] := hD
    refine lv_if_eq (tgt := 23) hx hb dX12_isAsked_5 (by decide) (fun _ => ?_) (fun h9 => absurd (by decide) h9)
    refine lv_iconst (v := 0) hx hb dX12_isAsked_23 (by decide) ?_
    refine lv_pc (q := 24) rfl ?_
    exact uRz () B rfl (Or.inl ⟨rfl, Or.inl w2⟩) (uSub hP [] rfl) (hD.sub [] rfl rfl) hS dX12_isAsked_24
  have hP : va_P D vwCl [] H := hP
  have hD : va_D A [] := hD
  refine lv_if_eq (tgt := 23) hx hb dX12_isAsked_5 (by decide) (fun h9 => absurd h9 (by decide)) (fun _ => ?_)
  refine lv_iload_n hx hb dX12_isAsked_8 rfl (lv_at hl 2 rfl) ?_
  refine lv_pc (q := 9) rfl ?_
  refine lv_if_lt (tgt := 23) hx hb dX12_isAsked_9 (by decide) (fun c7 => ?_) (fun c7 => ?_)
  · refine lv_iconst (v := 0) hx hb dX12_isAsked_23 (by decide) ?_
    exact uRz () B rfl (Or.inl ⟨rfl, Or.inr (Or.inl ⟨w3, w4, w5, w6, c7⟩)⟩) (uSub hP [] rfl) (hD.sub [] rfl rfl) hS dX12_isAsked_24
  refine lv_iload_n hx hb dX12_isAsked_12 rfl (lv_at hl 2 rfl) ?_
  refine lv_sipush (v := 500) hx hb dX12_isAsked_13 (by decide) ?_
  refine lv_icmp_gt (tgt := 23) hx hb dX12_isAsked_16 (by decide) (fun c8 => ?_) (fun c8 => ?_)
  · refine lv_iconst (v := 0) hx hb dX12_isAsked_23 (by decide) ?_
    exact uRz () B rfl (Or.inl ⟨rfl, Or.inr (Or.inr ⟨w3, w4, w5, w6, c7, c8⟩)⟩) (uSub hP [] rfl) (hD.sub [] rfl rfl) hS dX12_isAsked_24
  refine lv_iconst (v := 1) hx hb dX12_isAsked_19 (by decide) ?_
  refine lv_goto (tgt := 24) hx hb dX12_isAsked_20 (by decide) ?_
  refine lv_pc (q := 24) rfl ?_
  exact uRz () B rfl (Or.inr ⟨rfl, ⟨w3, w4, w5, w6, c7, c8⟩⟩) (uSub hP [] rfl) (hD.sub [] rfl rfl) hS dX12_isAsked_24
def qkX12_isLevel_101 (px0 : Int32) : Int32 → (Unit) → Prop := (fun (r : Int32) (u : Unit) => (r = 1 ∧ ((px0 = 1) ∨ (¬ px0 = 1 ∧ px0 = 2))) ∨ (r = 0 ∧ (¬ px0 = 1 ∧ ¬ px0 = 2)))
def vkX12_isLevel_101 (K : Nat → ClassId) (px0 : Int32) : (Unit) → va_W := (fun (u : Unit) => [])
set_option maxHeartbeats 4000000 in
set_option maxRecDepth 100000 in
theorem kX12_isLevel_101 (l : Launch) (D : va_G) (K : Nat → ClassId) (sz : Nat) (px0 : Int32) : uMi l yX12_isLevel cX12_isLevel 1 (some .boolean) { frames := 0, cells := 0, slots := 0, locals := 0 } [.int px0] D K [] sz (qkX12_isLevel_101 px0) (vkX12_isLevel_101 K px0) := by
  refine uMet (Qc := uQi D (qkX12_isLevel_101 px0) (vkX12_isLevel_101 K px0)) (ret := (some .boolean)) (by decide) (Nat.le_of_ble_eq_true rfl) ?_
  intro p e s m below meth c A ls hAe hsz B hP hD hS hl
  have hx := B.1
  have hb := B.2.1
  have hl : lv_has ls 1 [(0, .int px0)] := hl
  refine lv_iload_n hx hb dX12_isLevel_0 rfl (lv_at hl 0 rfl) ?_
  refine lv_iconst (v := 1) hx hb dX12_isLevel_1 (by decide) ?_
  refine lv_icmp_eq (tgt := 10) hx hb dX12_isLevel_2 (by decide) (fun c1 => ?_) (fun c1 => ?_)
  · refine lv_iconst (v := 1) hx hb dX12_isLevel_10 (by decide) ?_
    refine lv_goto (tgt := 15) hx hb dX12_isLevel_11 (by decide) ?_
    refine lv_pc (q := 15) rfl ?_
    exact uRz () B rfl (Or.inl ⟨rfl, Or.inl c1⟩) (uSub hP [] rfl) (hD.sub [] rfl rfl) hS dX12_isLevel_15
  refine lv_iload_n hx hb dX12_isLevel_5 rfl (lv_at hl 0 rfl) ?_
  refine lv_iconst (v := 2) hx hb dX12_isLevel_6 (by decide) ?_
  refine lv_pc (q := 7) rfl ?_
  refine lv_icmp_ne (tgt := 14) hx hb dX12_isLevel_7 (by decide) (fun c2 => ?_) (fun c2 => ?_)
  · refine lv_iconst (v := 0) hx hb dX12_isLevel_14 (by decide) ?_
    exact uRz () B rfl (Or.inr ⟨rfl, ⟨c1, c2⟩⟩) (uSub hP [] rfl) (hD.sub [] rfl rfl) hS dX12_isLevel_15
  refine lv_iconst (v := 1) hx hb dX12_isLevel_10 (by decide) ?_
  refine lv_goto (tgt := 15) hx hb dX12_isLevel_11 (by decide) ?_
  exact uRz () B rfl (Or.inl ⟨rfl, Or.inr ⟨c1, c2⟩⟩) (uSub hP [] rfl) (hD.sub [] rfl rfl) hS dX12_isLevel_15
def qkX12_lines_102 (ph0 : Nat) (pg1 : Nat) (pg2 : Nat) (pg3 : Nat) (pg4 : Nat) (pg5 : Nat) (pg6 : Nat) (pg7 : Nat) (pg8 : Nat) (pg9 : Nat) (pg10 : Nat) (pg11 : Nat) (pg12 : Nat) (pg13 : Nat) (pg14 : Nat) (pg15 : Nat) (pg16 : Nat) (pg17 : Nat) (pg18 : Nat) (pg19 : Nat) (pg20 : Nat) (pg21 : Nat) (pg22 : Nat) (pg23 : Nat) (pg24 : Nat) (pg25 : Nat) (pg26 : Nat) (pg27 : Nat) (pg28 : Nat) (pg29 : Nat) (pg30 : Nat) (pg31 : Nat) (pg32 : Nat) (pg33 : Nat) (pg34 : Nat) (pg35 : Nat) (pg36 : Nat) (pg37 : Nat) (pg38 : Nat) (pg39 : Nat) (pg40 : Nat) (pg41 : Nat) (pg42 : Nat) (pg43 : Nat) (pg44 : Nat) (pg45 : Nat) (pg46 : Nat) (pg47 : Nat) (pg48 : Nat) (pg49 : Nat) (pg50 : Nat) (pg51 : Nat) (pg52 : Nat) (pg53 : Nat) (pg54 : Nat) (pg55 : Nat) (pg56 : Nat) (pg57 : Nat) (pg58 : Nat) (pg59 : Nat) (pg60 : Nat) (pg61 : Nat) (pg62 : Nat) (pg63 : Nat) (pg64 : Nat) (pg65 : Nat) (pg66 : Nat) (px67 : Int32) (px68 : Int32) (px69 : Int32) (px70 : Int32) : Unit → Prop := (fun (u : Unit) => True)
def vkX12_lines_102 (K : Nat → ClassId) (ph0 : Nat) (pg1 : Nat) (pg2 : Nat) (pg3 : Nat) (pg4 : Nat) (pg5 : Nat) (pg6 : Nat) (pg7 : Nat) (pg8 : Nat) (pg9 : Nat) (pg10 : Nat) (pg11 : Nat) (pg12 : Nat) (pg13 : Nat) (pg14 : Nat) (pg15 : Nat) (pg16 : Nat) (pg17 : Nat) (pg18 : Nat) (pg19 : Nat) (pg20 : Nat) (pg21 : Nat) (pg22 : Nat) (pg23 : Nat) (pg24 : Nat) (pg25 : Nat) (pg26 : Nat) (pg27 : Nat) (pg28 : Nat) (pg29 : Nat) (pg30 : Nat) (pg31 : Nat) (pg32 : Nat) (pg33 : Nat) (pg34 : Nat) (pg35 : Nat) (pg36 : Nat) (pg37 : Nat) (pg38 : Nat) (pg39 : Nat) (pg40 : Nat) (pg41 : Nat) (pg42 : Nat) (pg43 : Nat) (pg44 : Nat) (pg45 : Nat) (pg46 : Nat) (pg47 : Nat) (pg48 : Nat) (pg49 : Nat) (pg50 : Nat) (pg51 : Nat) (pg52 : Nat) (pg53 : Nat) (pg54 : Nat) (pg55 : Nat) (pg56 : Nat) (pg57 : Nat) (pg58 : Nat) (pg59 : Nat) (pg60 : Nat) (pg61 : Nat) (pg62 : Nat) (pg63 : Nat) (pg64 : Nat) (pg65 : Nat) (pg66 : Nat) (px67 : Int32) (px68 : Int32) (px69 : Int32) (px70 : Int32) : (Unit) → va_W := (fun (u : Unit) => [(ph0, .inr (12, [.int 0, .int 4, .int 4, .ref pg1, .ref pg2, .ref pg3, .ref pg4, .int 0, .ref pg5, .ref pg6, .int 0, .ref pg7, .ref pg8, .ref pg9, .ref pg10, .ref pg11, .ref pg12, .ref pg13, .int 0, .ref pg14, .ref pg15, .ref pg16, .ref pg17, .ref pg18, .ref pg19, .int 0, .ref pg20, .int 0, .int 0, .int 0, .ref pg21, .int 0, .int 0, .ref pg22, .int 0, .ref pg23, .ref pg24, .ref pg25, .ref pg26, .ref pg27, .ref pg28, .ref pg29, .ref pg30, .ref pg31, .ref pg32, .ref pg33, .ref pg34, .ref pg35, .ref pg36, .ref pg37, .ref pg38, .ref pg39, .ref pg40, .ref pg41, .ref pg42, .ref pg43, .ref pg44, .ref pg45, .int 0, .int 0, .int 0, .int 0, .int 0, .long 0, .int 0, .int 0, .int 0, .int 0, .int 0, .int (-1), .int 0, .ref pg46, .ref pg47, .ref pg48, .ref pg49, .ref pg50, .int 0, .int 0, .ref pg51, .ref pg52, .ref pg53, .ref pg54, .ref pg55, .ref pg56, .ref pg57, .ref pg58, .int 0, .int 0, .int 0, .int 0, .ref pg59, .ref pg60, .int 0, .ref pg61, .ref pg62, .ref pg63, .ref pg64, .ref pg65, .ref pg66]))])
set_option maxHeartbeats 4000000 in
set_option maxRecDepth 100000 in
theorem kX12_lines_102 (l : Launch) (D : va_G) (K : Nat → ClassId) (sz : Nat) (ph0 : Nat) (pg1 : Nat) (pg2 : Nat) (pg3 : Nat) (pg4 : Nat) (pg5 : Nat) (pg6 : Nat) (pg7 : Nat) (pg8 : Nat) (pg9 : Nat) (pg10 : Nat) (pg11 : Nat) (pg12 : Nat) (pg13 : Nat) (pg14 : Nat) (pg15 : Nat) (pg16 : Nat) (pg17 : Nat) (pg18 : Nat) (pg19 : Nat) (pg20 : Nat) (pg21 : Nat) (pg22 : Nat) (pg23 : Nat) (pg24 : Nat) (pg25 : Nat) (pg26 : Nat) (pg27 : Nat) (pg28 : Nat) (pg29 : Nat) (pg30 : Nat) (pg31 : Nat) (pg32 : Nat) (pg33 : Nat) (pg34 : Nat) (pg35 : Nat) (pg36 : Nat) (pg37 : Nat) (pg38 : Nat) (pg39 : Nat) (pg40 : Nat) (pg41 : Nat) (pg42 : Nat) (pg43 : Nat) (pg44 : Nat) (pg45 : Nat) (pg46 : Nat) (pg47 : Nat) (pg48 : Nat) (pg49 : Nat) (pg50 : Nat) (pg51 : Nat) (pg52 : Nat) (pg53 : Nat) (pg54 : Nat) (pg55 : Nat) (pg56 : Nat) (pg57 : Nat) (pg58 : Nat) (pg59 : Nat) (pg60 : Nat) (pg61 : Nat) (pg62 : Nat) (pg63 : Nat) (pg64 : Nat) (pg65 : Nat) (pg66 : Nat) (px67 : Int32) (px68 : Int32) (px69 : Int32) (px70 : Int32) : uMv l yX12_lines cX12_lines 9 { frames := 1, cells := 0, slots := 0, locals := 23 } [.ref ph0, .int px67, .int px68, .int px69, .int px70] D K [(ph0, .inr (12, [.int 0, .int 4, .int 4, .ref pg1, .ref pg2, .ref pg3, .ref pg4, .int 0, .ref pg5, .ref pg6, .int 0, .ref pg7, .ref pg8, .ref pg9, .ref pg10, .ref pg11, .ref pg12, .ref pg13, .int 0, .ref pg14, .ref pg15, .ref pg16, .ref pg17, .ref pg18, .ref pg19, .int 0, .ref pg20, .int 0, .int 0, .int 0, .ref pg21, .int 0, .int 0, .ref pg22, .int 0, .ref pg23, .ref pg24, .ref pg25, .ref pg26, .ref pg27, .ref pg28, .ref pg29, .ref pg30, .ref pg31, .ref pg32, .ref pg33, .ref pg34, .ref pg35, .ref pg36, .ref pg37, .ref pg38, .ref pg39, .ref pg40, .ref pg41, .ref pg42, .ref pg43, .ref pg44, .ref pg45, .int 0, .int 0, .int 0, .int 0, .int 0, .long 0, .int 0, .int 0, .int 0, .int 0, .int 0, .int (-1), .int 0, .ref pg46, .ref pg47, .ref pg48, .ref pg49, .ref pg50, .int 0, .int 0, .ref pg51, .ref pg52, .ref pg53, .ref pg54, .ref pg55, .ref pg56, .ref pg57, .ref pg58, .int 0, .int 0, .int 0, .int 0, .ref pg59, .ref pg60, .int 0, .ref pg61, .ref pg62, .ref pg63, .ref pg64, .ref pg65, .ref pg66]))] sz (qkX12_lines_102 ph0 pg1 pg2 pg3 pg4 pg5 pg6 pg7 pg8 pg9 pg10 pg11 pg12 pg13 pg14 pg15 pg16 pg17 pg18 pg19 pg20 pg21 pg22 pg23 pg24 pg25 pg26 pg27 pg28 pg29 pg30 pg31 pg32 pg33 pg34 pg35 pg36 pg37 pg38 pg39 pg40 pg41 pg42 pg43 pg44 pg45 pg46 pg47 pg48 pg49 pg50 pg51 pg52 pg53 pg54 pg55 pg56 pg57 pg58 pg59 pg60 pg61 pg62 pg63 pg64 pg65 pg66 px67 px68 px69 px70) (vkX12_lines_102 K ph0 pg1 pg2 pg3 pg4 pg5 pg6 pg7 pg8 pg9 pg10 pg11 pg12 pg13 pg14 pg15 pg16 pg17 pg18 pg19 pg20 pg21 pg22 pg23 pg24 pg25 pg26 pg27 pg28 pg29 pg30 pg31 pg32 pg33 pg34 pg35 pg36 pg37 pg38 pg39 pg40 pg41 pg42 pg43 pg44 pg45 pg46 pg47 pg48 pg49 pg50 pg51 pg52 pg53 pg54 pg55 pg56 pg57 pg58 pg59 pg60 pg61 pg62 pg63 pg64 pg65 pg66 px67 px68 px69 px70) := by
  refine uMet (Qc := uQv D (qkX12_lines_102 ph0 pg1 pg2 pg3 pg4 pg5 pg6 pg7 pg8 pg9 pg10 pg11 pg12 pg13 pg14 pg15 pg16 pg17 pg18 pg19 pg20 pg21 pg22 pg23 pg24 pg25 pg26 pg27 pg28 pg29 pg30 pg31 pg32 pg33 pg34 pg35 pg36 pg37 pg38 pg39 pg40 pg41 pg42 pg43 pg44 pg45 pg46 pg47 pg48 pg49 pg50 pg51 pg52 pg53 pg54 pg55 pg56 pg57 pg58 pg59 pg60 pg61 pg62 pg63 pg64 pg65 pg66 px67 px68 px69 px70) (vkX12_lines_102 K ph0 pg1 pg2 pg3 pg4 pg5 pg6 pg7 pg8 pg9 pg10 pg11 pg12 pg13 pg14 pg15 pg16 pg17 pg18 pg19 pg20 pg21 pg22 pg23 pg24 pg25 pg26 pg27 pg28 pg29 pg30 pg31 pg32 pg33 pg34 pg35 pg36 pg37 pg38 pg39 pg40 pg41 pg42 pg43 pg44 pg45 pg46 pg47 pg48 pg49 pg50 pg51 pg52 pg53 pg54 pg55 pg56 pg57 pg58 pg59 pg60 pg61 pg62 pg63 pg64 pg65 pg66 px67 px68 px69 px70)) (ret := none) (by decide) (Nat.le_of_ble_eq_true rfl) ?_
  intro p e s m below meth c A ls hAe hsz B hP hD hS hl
  have hx := B.1
  have hb := B.2.1
  have hl : lv_has ls 9 [(0, .ref ph0), (1, .int px67), (2, .int px68), (3, .int px69), (4, .int px70)] := hl
  refine lv_aload_n hx hb dX12_lines_0 rfl (lv_at hl 0 rfl) ?_
  refine lv_aload_n hx hb dX12_lines_1 rfl (lv_at hl 0 rfl) ?_
  refine uGet (ci := 12) (C := RX12) (T := TX12) (N := 99) (v := .int 0) B inlX12 hP 0 rfl rfl 18 rfl mfl_X12_230 rfl rfl dX12_lines_2 ?_
  refine uVi (As := [.int 0]) (rest := []) (wr := []) [(ph0, .inr (12, [.int 0, .int 4, .int 4, .ref pg1, .ref pg2, .ref pg3, .ref pg4, .int 0, .ref pg5, .ref pg6, .int 0, .ref pg7, .ref pg8, .ref pg9, .ref pg10, .ref pg11, .ref pg12, .ref pg13, .int 0, .ref pg14, .ref pg15, .ref pg16, .ref pg17, .ref pg18, .ref pg19, .int 0, .ref pg20, .int 0, .int 0, .int 0, .ref pg21, .int 0, .int 0, .ref pg22, .int 0, .ref pg23, .ref pg24, .ref pg25, .ref pg26, .ref pg27, .ref pg28, .ref pg29, .ref pg30, .ref pg31, .ref pg32, .ref pg33, .ref pg34, .ref pg35, .ref pg36, .ref pg37, .ref pg38, .ref pg39, .ref pg40, .ref pg41, .ref pg42, .ref pg43, .ref pg44, .ref pg45, .int 0, .int 0, .int 0, .int 0, .int 0, .long 0, .int 0, .int 0, .int 0, .int 0, .int 0, .int (-1), .int 0, .ref pg46, .ref pg47, .ref pg48, .ref pg49, .ref pg50, .int 0, .int 0, .ref pg51, .ref pg52, .ref pg53, .ref pg54, .ref pg55, .ref pg56, .ref pg57, .ref pg58, .int 0, .int 0, .int 0, .int 0, .ref pg59, .ref pg60, .int 0, .ref pg61, .ref pg62, .ref pg63, .ref pg64, .ref pg65, .ref pg66]))] B hl.1 hP hD hS [0] [] rfl rfl rfl (kX12_knows_78 l D K _ ph0 pg1 pg2 pg3 pg4 pg5 pg6 pg7 pg8 pg9 pg10 pg11 pg12 pg13 pg14 pg15 pg16 pg17 pg18 pg19 pg20 pg21 pg22 pg23 pg24 pg25 pg26 pg27 pg28 pg29 pg30 pg31 pg32 pg33 pg34 pg35 pg36 pg37 pg38 pg39 pg40 pg41 pg42 pg43 pg44 pg45 pg46 pg47 pg48 pg49 pg50 pg51 pg52 pg53 pg54 pg55 pg56 pg57 pg58 pg59 pg60 pg61 pg62 pg63 pg64 pg65 pg66) wd_X12_knows mml_X12_329 rfl rfl rfl rfl ⟨Nat.le_of_ble_eq_true rfl, Nat.le_of_ble_eq_true rfl⟩ (Nat.le_of_ble_eq_true rfl) ⟨Nat.le_of_ble_eq_true rfl, Nat.le_of_ble_eq_true rfl⟩ dX12_lines_5 (fun r1 u H locs hw hP hD hS => ?_)
  try dsimp only at hw
  rcases hw with rfl
  have hP : va_P D vwCl [(ph0, .inr (12, [.int 0, .int 4, .int 4, .ref pg1, .ref pg2, .ref pg3, .ref pg4, .int 0, .ref pg5, .ref pg6, .int 0, .ref pg7, .ref pg8, .ref pg9, .ref pg10, .ref pg11, .ref pg12, .ref pg13, .int 0, .ref pg14, .ref pg15, .ref pg16, .ref pg17, .ref pg18, .ref pg19, .int 0, .ref pg20, .int 0, .int 0, .int 0, .ref pg21, .int 0, .int 0, .ref pg22, .int 0, .ref pg23, .ref pg24, .ref pg25, .ref pg26, .ref pg27, .ref pg28, .ref pg29, .ref pg30, .ref pg31, .ref pg32, .ref pg33, .ref pg34, .ref pg35, .ref pg36, .ref pg37, .ref pg38, .ref pg39, .ref pg40, .ref pg41, .ref pg42, .ref pg43, .ref pg44, .ref pg45, .int 0, .int 0, .int 0, .int 0, .int 0, .long 0, .int 0, .int 0, .int 0, .int 0, .int 0, .int (-1), .int 0, .ref pg46, .ref pg47, .ref pg48, .ref pg49, .ref pg50, .int 0, .int 0, .ref pg51, .ref pg52, .ref pg53, .ref pg54, .ref pg55, .ref pg56, .ref pg57, .ref pg58, .int 0, .int 0, .int 0, .int 0, .ref pg59, .ref pg60, .int 0, .ref pg61, .ref pg62, .ref pg63, .ref pg64, .ref pg65, .ref pg66]))] H := hP
  have hD : va_D A [(ph0, .inr (12, [.int 0, .int 4, .int 4, .ref pg1, .ref pg2, .ref pg3, .ref pg4, .int 0, .ref pg5, .ref pg6, .int 0, .ref pg7, .ref pg8, .ref pg9, .ref pg10, .ref pg11, .ref pg12, .ref pg13, .int 0, .ref pg14, .ref pg15, .ref pg16, .ref pg17, .ref pg18, .ref pg19, .int 0, .ref pg20, .int 0, .int 0, .int 0, .ref pg21, .int 0, .int 0, .ref pg22, .int 0, .ref pg23, .ref pg24, .ref pg25, .ref pg26, .ref pg27, .ref pg28, .ref pg29, .ref pg30, .ref pg31, .ref pg32, .ref pg33, .ref pg34, .ref pg35, .ref pg36, .ref pg37, .ref pg38, .ref pg39, .ref pg40, .ref pg41, .ref pg42, .ref pg43, .ref pg44, .ref pg45, .int 0, .int 0, .int 0, .int 0, .int 0, .long 0, .int 0, .int 0, .int 0, .int 0, .int 0, .int (-1), .int 0, .ref pg46, .ref pg47, .ref pg48, .ref pg49, .ref pg50, .int 0, .int 0, .ref pg51, .ref pg52, .ref pg53, .ref pg54, .ref pg55, .ref pg56, .ref pg57, .ref pg58, .int 0, .int 0, .int 0, .int 0, .ref pg59, .ref pg60, .int 0, .ref pg61, .ref pg62, .ref pg63, .ref pg64, .ref pg65, .ref pg66]))] := hD
  refine lv_istore (lv' := [(5, .int 1), (0, .ref ph0), (1, .int px67), (2, .int px68), (3, .int px69), (4, .int px70)]) hx hb dX12_lines_8 hl (by decide) rfl (fun ls hl => ?_)
  refine lv_pc (q := 10) rfl ?_
  refine lv_aload_n hx hb dX12_lines_10 rfl (lv_at hl 1 rfl) ?_
  refine lv_iconst (v := 0) hx hb dX12_lines_11 (by decide) ?_
  refine uPut (ci := 12) (C := RX12) (T := TX12) (N := 99) (ws' := [(ph0, .inr (12, [.int 0, .int 4, .int 4, .ref pg1, .ref pg2, .ref pg3, .ref pg4, .int 0, .ref pg5, .ref pg6, .int 0, .ref pg7, .ref pg8, .ref pg9, .ref pg10, .ref pg11, .ref pg12, .ref pg13, .int 0, .ref pg14, .ref pg15, .ref pg16, .ref pg17, .ref pg18, .ref pg19, .int 0, .ref pg20, .int 0, .int 0, .int 0, .ref pg21, .int 0, .int 0, .ref pg22, .int 0, .ref pg23, .ref pg24, .ref pg25, .ref pg26, .ref pg27, .ref pg28, .ref pg29, .ref pg30, .ref pg31, .ref pg32, .ref pg33, .ref pg34, .ref pg35, .ref pg36, .ref pg37, .ref pg38, .ref pg39, .ref pg40, .ref pg41, .ref pg42, .ref pg43, .ref pg44, .ref pg45, .int 0, .int 0, .int 0, .int 0, .int 0, .long 0, .int 0, .int 0, .int 0, .int 0, .int 0, .int (-1), .int 0, .ref pg46, .ref pg47, .ref pg48, .ref pg49, .ref pg50, .int 0, .int 0, .ref pg51, .ref pg52, .ref pg53, .ref pg54, .ref pg55, .ref pg56, .ref pg57, .ref pg58, .int 0, .int 0, .int 0, .int 0, .ref pg59, .ref pg60, .int 0, .ref pg61, .ref pg62, .ref pg63, .ref pg64, .ref pg65, .ref pg66]))]) B inlX12 tyX12_ok nmX12 hP hD hS 0 rfl rfl 27 rfl mfl_X12_335 rfl rfl rfl rfl rfl rfl dX12_lines_12 (fun H locs hP hD hS => ?_)
  refine lv_aload_n hx hb dX12_lines_15 rfl (lv_at hl 1 rfl) ?_
  refine lv_iconst (v := 0) hx hb dX12_lines_16 (by decide) ?_
  refine uPut (ci := 12) (C := RX12) (T := TX12) (N := 99) (ws' := [(ph0, .inr (12, [.int 0, .int 4, .int 4, .ref pg1, .ref pg2, .ref pg3, .ref pg4, .int 0, .ref pg5, .ref pg6, .int 0, .ref pg7, .ref pg8, .ref pg9, .ref pg10, .ref pg11, .ref pg12, .ref pg13, .int 0, .ref pg14, .ref pg15, .ref pg16, .ref pg17, .ref pg18, .ref pg19, .int 0, .ref pg20, .int 0, .int 0, .int 0, .ref pg21, .int 0, .int 0, .ref pg22, .int 0, .ref pg23, .ref pg24, .ref pg25, .ref pg26, .ref pg27, .ref pg28, .ref pg29, .ref pg30, .ref pg31, .ref pg32, .ref pg33, .ref pg34, .ref pg35, .ref pg36, .ref pg37, .ref pg38, .ref pg39, .ref pg40, .ref pg41, .ref pg42, .ref pg43, .ref pg44, .ref pg45, .int 0, .int 0, .int 0, .int 0, .int 0, .long 0, .int 0, .int 0, .int 0, .int 0, .int 0, .int (-1), .int 0, .ref pg46, .ref pg47, .ref pg48, .ref pg49, .ref pg50, .int 0, .int 0, .ref pg51, .ref pg52, .ref pg53, .ref pg54, .ref pg55, .ref pg56, .ref pg57, .ref pg58, .int 0, .int 0, .int 0, .int 0, .ref pg59, .ref pg60, .int 0, .ref pg61, .ref pg62, .ref pg63, .ref pg64, .ref pg65, .ref pg66]))]) B inlX12 tyX12_ok nmX12 hP hD hS 0 rfl rfl 28 rfl mfl_X12_338 rfl rfl rfl rfl rfl rfl dX12_lines_17 (fun H locs hP hD hS => ?_)
  refine lv_pc (q := 20) rfl ?_
  refine lv_iconst (v := 0) hx hb dX12_lines_20 (by decide) ?_
  refine lv_istore (lv' := [(6, .int 0), (5, .int 1), (0, .ref ph0), (1, .int px67), (2, .int px68), (3, .int px69), (4, .int px70)]) hx hb dX12_lines_21 hl (by decide) rfl (fun ls hl => ?_)
  refine lv_iload hx hb dX12_lines_23 (lv_at hl 0 rfl) ?_
  refine lv_aload_n hx hb dX12_lines_25 rfl (lv_at hl 2 rfl) ?_
  refine uGet (ci := 12) (C := RX12) (T := TX12) (N := 99) (v := .int 0) B inlX12 hP 0 rfl rfl 10 rfl mfl_X12_227 rfl rfl dX12_lines_26 ?_
  refine lv_icmp_ge (tgt := 113) hx hb dX12_lines_29 (by decide) (fun _ => ?_) (fun h9 => absurd (by decide) h9)
  refine lv_pc (q := 113) rfl ?_
  refine lv_aload_n hx hb dX12_lines_113 rfl (lv_at hl 2 rfl) ?_
  refine uGet (ci := 12) (C := RX12) (T := TX12) (N := 99) (v := .int 0) B inlX12 hP 0 rfl rfl 27 rfl mfl_X12_335 rfl rfl dX12_lines_114 ?_
  refine lv_aload_n hx hb dX12_lines_117 rfl (lv_at hl 2 rfl) ?_
  refine uGet (ci := 12) (C := RX12) (T := TX12) (N := 99) (v := .int 0) B inlX12 hP 0 rfl rfl 28 rfl mfl_X12_338 rfl rfl dX12_lines_118 ?_
  refine lv_ior hx hb dX12_lines_121 ?_
  refine lv_fixi (y := 0) (by decide) ?_
  refine lv_istore (lv' := [(6, .int 0), (5, .int 1), (0, .ref ph0), (1, .int px67), (2, .int px68), (3, .int px69), (4, .int px70)]) hx hb dX12_lines_122 hl (by decide) rfl (fun ls hl => ?_)
  refine lv_pc (q := 124) rfl ?_
  refine lv_iconst (v := 0) hx hb dX12_lines_124 (by decide) ?_
  refine lv_istore (lv' := [(7, .int 0), (6, .int 0), (5, .int 1), (0, .ref ph0), (1, .int px67), (2, .int px68), (3, .int px69), (4, .int px70)]) hx hb dX12_lines_125 hl (by decide) rfl (fun ls hl => ?_)
  refine lv_iload hx hb dX12_lines_127 (lv_at hl 0 rfl) ?_
  refine lv_aload_n hx hb dX12_lines_129 rfl (lv_at hl 3 rfl) ?_
  refine uGet (ci := 12) (C := RX12) (T := TX12) (N := 99) (v := .int 0) B inlX12 hP 0 rfl rfl 10 rfl mfl_X12_227 rfl rfl dX12_lines_130 ?_
  refine lv_icmp_ge (tgt := 224) hx hb dX12_lines_133 (by decide) (fun _ => ?_) (fun h9 => absurd (by decide) h9)
  refine lv_pc (q := 224) rfl ?_
  exact uRv () B trivial (uSub hP [0] rfl) (hD.sub [0] rfl rfl) hS dX12_lines_224
def qkX12_groupsOf_103 (ph0 : Nat) (pg1 : Nat) (pg2 : Nat) (pg3 : Nat) (pg4 : Nat) (pg5 : Nat) (pg6 : Nat) (pg7 : Nat) (pg8 : Nat) (pg9 : Nat) (pg10 : Nat) (pg11 : Nat) (pg12 : Nat) (pg13 : Nat) (pg14 : Nat) (pg15 : Nat) (pg16 : Nat) (pg17 : Nat) (pg18 : Nat) (pg19 : Nat) (pg20 : Nat) (pg21 : Nat) (pg22 : Nat) (pg23 : Nat) (pg24 : Nat) (pg25 : Nat) (pg26 : Nat) (pg27 : Nat) (pg28 : Nat) (pg29 : Nat) (pg30 : Nat) (pg31 : Nat) (pg32 : Nat) (pg33 : Nat) (pg34 : Nat) (pg35 : Nat) (pg36 : Nat) (pg37 : Nat) (pg38 : Nat) (pg39 : Nat) (pg40 : Nat) (pg41 : Nat) (pg42 : Nat) (pg43 : Nat) (pg44 : Nat) (pg45 : Nat) (pg46 : Nat) (pg47 : Nat) (pg48 : Nat) (pg49 : Nat) (pg50 : Nat) (pg51 : Nat) (pg52 : Nat) (pg53 : Nat) (pg54 : Nat) (pg55 : Nat) (pg56 : Nat) (pg57 : Nat) (pg58 : Nat) (pg59 : Nat) (pg60 : Nat) (pg61 : Nat) (pg62 : Nat) (pg63 : Nat) (pg64 : Nat) (pg65 : Nat) (pg66 : Nat) : Int32 → (Unit) → Prop := (fun (r : Int32) (u : Unit) => r = 0)
def vkX12_groupsOf_103 (K : Nat → ClassId) (ph0 : Nat) (pg1 : Nat) (pg2 : Nat) (pg3 : Nat) (pg4 : Nat) (pg5 : Nat) (pg6 : Nat) (pg7 : Nat) (pg8 : Nat) (pg9 : Nat) (pg10 : Nat) (pg11 : Nat) (pg12 : Nat) (pg13 : Nat) (pg14 : Nat) (pg15 : Nat) (pg16 : Nat) (pg17 : Nat) (pg18 : Nat) (pg19 : Nat) (pg20 : Nat) (pg21 : Nat) (pg22 : Nat) (pg23 : Nat) (pg24 : Nat) (pg25 : Nat) (pg26 : Nat) (pg27 : Nat) (pg28 : Nat) (pg29 : Nat) (pg30 : Nat) (pg31 : Nat) (pg32 : Nat) (pg33 : Nat) (pg34 : Nat) (pg35 : Nat) (pg36 : Nat) (pg37 : Nat) (pg38 : Nat) (pg39 : Nat) (pg40 : Nat) (pg41 : Nat) (pg42 : Nat) (pg43 : Nat) (pg44 : Nat) (pg45 : Nat) (pg46 : Nat) (pg47 : Nat) (pg48 : Nat) (pg49 : Nat) (pg50 : Nat) (pg51 : Nat) (pg52 : Nat) (pg53 : Nat) (pg54 : Nat) (pg55 : Nat) (pg56 : Nat) (pg57 : Nat) (pg58 : Nat) (pg59 : Nat) (pg60 : Nat) (pg61 : Nat) (pg62 : Nat) (pg63 : Nat) (pg64 : Nat) (pg65 : Nat) (pg66 : Nat) : (Unit) → va_W := (fun (u : Unit) => [(ph0, .inr (12, [.int 0, .int 4, .int 4, .ref pg1, .ref pg2, .ref pg3, .ref pg4, .int 0, .ref pg5, .ref pg6, .int 0, .ref pg7, .ref pg8, .ref pg9, .ref pg10, .ref pg11, .ref pg12, .ref pg13, .int 0, .ref pg14, .ref pg15, .ref pg16, .ref pg17, .ref pg18, .ref pg19, .int 0, .ref pg20, .int 0, .int 0, .int 0, .ref pg21, .int 0, .int 0, .ref pg22, .int 0, .ref pg23, .ref pg24, .ref pg25, .ref pg26, .ref pg27, .ref pg28, .ref pg29, .ref pg30, .ref pg31, .ref pg32, .ref pg33, .ref pg34, .ref pg35, .ref pg36, .ref pg37, .ref pg38, .ref pg39, .ref pg40, .ref pg41, .ref pg42, .ref pg43, .ref pg44, .ref pg45, .int 0, .int 0, .int 0, .int 0, .int 0, .long 0, .int 0, .int 0, .int 0, .int 0, .int 0, .int (-1), .int 0, .ref pg46, .ref pg47, .ref pg48, .ref pg49, .ref pg50, .int 0, .int 0, .ref pg51, .ref pg52, .ref pg53, .ref pg54, .ref pg55, .ref pg56, .ref pg57, .ref pg58, .int 0, .int 0, .int 0, .int 0, .ref pg59, .ref pg60, .int 0, .ref pg61, .ref pg62, .ref pg63, .ref pg64, .ref pg65, .ref pg66]))])
set_option maxHeartbeats 4000000 in
set_option maxRecDepth 100000 in
theorem kX12_groupsOf_103 (l : Launch) (D : va_G) (K : Nat → ClassId) (sz : Nat) (ph0 : Nat) (pg1 : Nat) (pg2 : Nat) (pg3 : Nat) (pg4 : Nat) (pg5 : Nat) (pg6 : Nat) (pg7 : Nat) (pg8 : Nat) (pg9 : Nat) (pg10 : Nat) (pg11 : Nat) (pg12 : Nat) (pg13 : Nat) (pg14 : Nat) (pg15 : Nat) (pg16 : Nat) (pg17 : Nat) (pg18 : Nat) (pg19 : Nat) (pg20 : Nat) (pg21 : Nat) (pg22 : Nat) (pg23 : Nat) (pg24 : Nat) (pg25 : Nat) (pg26 : Nat) (pg27 : Nat) (pg28 : Nat) (pg29 : Nat) (pg30 : Nat) (pg31 : Nat) (pg32 : Nat) (pg33 : Nat) (pg34 : Nat) (pg35 : Nat) (pg36 : Nat) (pg37 : Nat) (pg38 : Nat) (pg39 : Nat) (pg40 : Nat) (pg41 : Nat) (pg42 : Nat) (pg43 : Nat) (pg44 : Nat) (pg45 : Nat) (pg46 : Nat) (pg47 : Nat) (pg48 : Nat) (pg49 : Nat) (pg50 : Nat) (pg51 : Nat) (pg52 : Nat) (pg53 : Nat) (pg54 : Nat) (pg55 : Nat) (pg56 : Nat) (pg57 : Nat) (pg58 : Nat) (pg59 : Nat) (pg60 : Nat) (pg61 : Nat) (pg62 : Nat) (pg63 : Nat) (pg64 : Nat) (pg65 : Nat) (pg66 : Nat) : uMi l yX12_groupsOf cX12_groupsOf 5 (some .int) { frames := 0, cells := 0, slots := 0, locals := 0 } [.ref ph0, .int 0] D K [(ph0, .inr (12, [.int 0, .int 4, .int 4, .ref pg1, .ref pg2, .ref pg3, .ref pg4, .int 0, .ref pg5, .ref pg6, .int 0, .ref pg7, .ref pg8, .ref pg9, .ref pg10, .ref pg11, .ref pg12, .ref pg13, .int 0, .ref pg14, .ref pg15, .ref pg16, .ref pg17, .ref pg18, .ref pg19, .int 0, .ref pg20, .int 0, .int 0, .int 0, .ref pg21, .int 0, .int 0, .ref pg22, .int 0, .ref pg23, .ref pg24, .ref pg25, .ref pg26, .ref pg27, .ref pg28, .ref pg29, .ref pg30, .ref pg31, .ref pg32, .ref pg33, .ref pg34, .ref pg35, .ref pg36, .ref pg37, .ref pg38, .ref pg39, .ref pg40, .ref pg41, .ref pg42, .ref pg43, .ref pg44, .ref pg45, .int 0, .int 0, .int 0, .int 0, .int 0, .long 0, .int 0, .int 0, .int 0, .int 0, .int 0, .int (-1), .int 0, .ref pg46, .ref pg47, .ref pg48, .ref pg49, .ref pg50, .int 0, .int 0, .ref pg51, .ref pg52, .ref pg53, .ref pg54, .ref pg55, .ref pg56, .ref pg57, .ref pg58, .int 0, .int 0, .int 0, .int 0, .ref pg59, .ref pg60, .int 0, .ref pg61, .ref pg62, .ref pg63, .ref pg64, .ref pg65, .ref pg66]))] sz (qkX12_groupsOf_103 ph0 pg1 pg2 pg3 pg4 pg5 pg6 pg7 pg8 pg9 pg10 pg11 pg12 pg13 pg14 pg15 pg16 pg17 pg18 pg19 pg20 pg21 pg22 pg23 pg24 pg25 pg26 pg27 pg28 pg29 pg30 pg31 pg32 pg33 pg34 pg35 pg36 pg37 pg38 pg39 pg40 pg41 pg42 pg43 pg44 pg45 pg46 pg47 pg48 pg49 pg50 pg51 pg52 pg53 pg54 pg55 pg56 pg57 pg58 pg59 pg60 pg61 pg62 pg63 pg64 pg65 pg66) (vkX12_groupsOf_103 K ph0 pg1 pg2 pg3 pg4 pg5 pg6 pg7 pg8 pg9 pg10 pg11 pg12 pg13 pg14 pg15 pg16 pg17 pg18 pg19 pg20 pg21 pg22 pg23 pg24 pg25 pg26 pg27 pg28 pg29 pg30 pg31 pg32 pg33 pg34 pg35 pg36 pg37 pg38 pg39 pg40 pg41 pg42 pg43 pg44 pg45 pg46 pg47 pg48 pg49 pg50 pg51 pg52 pg53 pg54 pg55 pg56 pg57 pg58 pg59 pg60 pg61 pg62 pg63 pg64 pg65 pg66) := by
  refine uMet (Qc := uQi D (qkX12_groupsOf_103 ph0 pg1 pg2 pg3 pg4 pg5 pg6 pg7 pg8 pg9 pg10 pg11 pg12 pg13 pg14 pg15 pg16 pg17 pg18 pg19 pg20 pg21 pg22 pg23 pg24 pg25 pg26 pg27 pg28 pg29 pg30 pg31 pg32 pg33 pg34 pg35 pg36 pg37 pg38 pg39 pg40 pg41 pg42 pg43 pg44 pg45 pg46 pg47 pg48 pg49 pg50 pg51 pg52 pg53 pg54 pg55 pg56 pg57 pg58 pg59 pg60 pg61 pg62 pg63 pg64 pg65 pg66) (vkX12_groupsOf_103 K ph0 pg1 pg2 pg3 pg4 pg5 pg6 pg7 pg8 pg9 pg10 pg11 pg12 pg13 pg14 pg15 pg16 pg17 pg18 pg19 pg20 pg21 pg22 pg23 pg24 pg25 pg26 pg27 pg28 pg29 pg30 pg31 pg32 pg33 pg34 pg35 pg36 pg37 pg38 pg39 pg40 pg41 pg42 pg43 pg44 pg45 pg46 pg47 pg48 pg49 pg50 pg51 pg52 pg53 pg54 pg55 pg56 pg57 pg58 pg59 pg60 pg61 pg62 pg63 pg64 pg65 pg66)) (ret := (some .int)) (by decide) (Nat.le_of_ble_eq_true rfl) ?_
  intro p e s m below meth c A ls hAe hsz B hP hD hS hl
  have hx := B.1
  have hb := B.2.1
  have hl : lv_has ls 5 [(0, .ref ph0), (1, .int 0)] := hl
  refine lv_iconst (v := 0) hx hb dX12_groupsOf_0 (by decide) ?_
  refine lv_istore_n (lv' := [(2, .int 0), (0, .ref ph0), (1, .int 0)]) hx hb dX12_groupsOf_1 rfl hl (by decide) rfl (fun ls hl => ?_)
  refine lv_iload_n hx hb dX12_groupsOf_2 rfl (lv_at hl 2 rfl) ?_
  refine lv_istore_n (lv' := [(3, .int 0), (2, .int 0), (0, .ref ph0), (1, .int 0)]) hx hb dX12_groupsOf_3 rfl hl (by decide) rfl (fun ls hl => ?_)
  refine lv_iconst (v := 0) hx hb dX12_groupsOf_4 (by decide) ?_
  refine lv_pc (q := 5) rfl ?_
  refine lv_istore (lv' := [(4, .int 0), (3, .int 0), (2, .int 0), (0, .ref ph0), (1, .int 0)]) hx hb dX12_groupsOf_5 hl (by decide) rfl (fun ls hl => ?_)
  refine lv_iload hx hb dX12_groupsOf_7 (lv_at hl 0 rfl) ?_
  refine lv_aload_n hx hb dX12_groupsOf_9 rfl (lv_at hl 3 rfl) ?_
  refine uGet (ci := 12) (C := RX12) (T := TX12) (N := 99) (v := .int 0) B inlX12 hP 0 rfl rfl 10 rfl mfl_X12_227 rfl rfl dX12_groupsOf_10 ?_
  refine lv_icmp_ge (tgt := 49) hx hb dX12_groupsOf_13 (by decide) (fun _ => ?_) (fun h9 => absurd (by decide) h9)
  refine lv_iload_n hx hb dX12_groupsOf_49 rfl (lv_at hl 2 rfl) ?_
  refine lv_pc (q := 50) rfl ?_
  exact uRi () B rfl (uSub hP [0] rfl) (hD.sub [0] rfl rfl) hS dX12_groupsOf_50
def qkX12_groups_104 (ph0 : Nat) (pg1 : Nat) (pg2 : Nat) (pg3 : Nat) (pg4 : Nat) (pg5 : Nat) (pg6 : Nat) (pg7 : Nat) (pg8 : Nat) (pg9 : Nat) (pg10 : Nat) (pg11 : Nat) (pg12 : Nat) (pg13 : Nat) (pg14 : Nat) (pg15 : Nat) (pg16 : Nat) (pg17 : Nat) (pg18 : Nat) (pg19 : Nat) (pg20 : Nat) (pg21 : Nat) (pg22 : Nat) (pg23 : Nat) (pg24 : Nat) (pg25 : Nat) (pg26 : Nat) (pg27 : Nat) (pg28 : Nat) (pg29 : Nat) (pg30 : Nat) (pg31 : Nat) (pg32 : Nat) (pg33 : Nat) (pg34 : Nat) (pg35 : Nat) (pg36 : Nat) (pg37 : Nat) (pg38 : Nat) (pg39 : Nat) (pg40 : Nat) (pg41 : Nat) (pg42 : Nat) (pg43 : Nat) (pg44 : Nat) (pg45 : Nat) (pg46 : Nat) (pg47 : Nat) (pg48 : Nat) (pg49 : Nat) (pg50 : Nat) (pg51 : Nat) (pg52 : Nat) (pg53 : Nat) (pg54 : Nat) (pg55 : Nat) (pg56 : Nat) (pg57 : Nat) (pg58 : Nat) (pg59 : Nat) (pg60 : Nat) (pg61 : Nat) (pg62 : Nat) (pg63 : Nat) (pg64 : Nat) (pg65 : Nat) (pg66 : Nat) (px67 : Int32) (px68 : Int32) (px69 : Int32) (px70 : Int32) : Int32 → (Unit) → Prop := (fun (r : Int32) (u : Unit) => (r = (-1) ∧ ((((((px67 < 0) ∨ (¬ px67 < 0 ∧ 11 < px67) ∨ (¬ px67 < 0 ∧ ¬ 11 < px67 ∧ px68 < 0) ∨ (¬ px67 < 0 ∧ ¬ 11 < px67 ∧ ¬ px68 < 0 ∧ 1 < px68))) ∨ (¬ px67 < 0 ∧ ¬ 11 < px67 ∧ ¬ px68 < 0 ∧ ¬ 1 < px68 ∧ px69 < 0) ∨ (¬ px67 < 0 ∧ ¬ 11 < px67 ∧ ¬ px68 < 0 ∧ ¬ 1 < px68 ∧ ¬ px69 < 0 ∧ 500 < px69))) ∨ (¬ px67 < 0 ∧ ¬ 11 < px67 ∧ ¬ px68 < 0 ∧ ¬ 1 < px68 ∧ ¬ px69 < 0 ∧ ¬ 500 < px69 ∧ ¬ px70 = 1 ∧ ¬ px70 = 2))) ∨ (r = 0 ∧ (¬ px67 < 0 ∧ ¬ 11 < px67 ∧ ¬ px68 < 0 ∧ ¬ 1 < px68 ∧ ¬ px69 < 0 ∧ ¬ 500 < px69 ∧ ((px70 = 1) ∨ (¬ px70 = 1 ∧ px70 = 2)))))
def vkX12_groups_104 (K : Nat → ClassId) (ph0 : Nat) (pg1 : Nat) (pg2 : Nat) (pg3 : Nat) (pg4 : Nat) (pg5 : Nat) (pg6 : Nat) (pg7 : Nat) (pg8 : Nat) (pg9 : Nat) (pg10 : Nat) (pg11 : Nat) (pg12 : Nat) (pg13 : Nat) (pg14 : Nat) (pg15 : Nat) (pg16 : Nat) (pg17 : Nat) (pg18 : Nat) (pg19 : Nat) (pg20 : Nat) (pg21 : Nat) (pg22 : Nat) (pg23 : Nat) (pg24 : Nat) (pg25 : Nat) (pg26 : Nat) (pg27 : Nat) (pg28 : Nat) (pg29 : Nat) (pg30 : Nat) (pg31 : Nat) (pg32 : Nat) (pg33 : Nat) (pg34 : Nat) (pg35 : Nat) (pg36 : Nat) (pg37 : Nat) (pg38 : Nat) (pg39 : Nat) (pg40 : Nat) (pg41 : Nat) (pg42 : Nat) (pg43 : Nat) (pg44 : Nat) (pg45 : Nat) (pg46 : Nat) (pg47 : Nat) (pg48 : Nat) (pg49 : Nat) (pg50 : Nat) (pg51 : Nat) (pg52 : Nat) (pg53 : Nat) (pg54 : Nat) (pg55 : Nat) (pg56 : Nat) (pg57 : Nat) (pg58 : Nat) (pg59 : Nat) (pg60 : Nat) (pg61 : Nat) (pg62 : Nat) (pg63 : Nat) (pg64 : Nat) (pg65 : Nat) (pg66 : Nat) (px67 : Int32) (px68 : Int32) (px69 : Int32) (px70 : Int32) : (Unit) → va_W := (fun (u : Unit) => [])
set_option maxHeartbeats 4000000 in
set_option maxRecDepth 100000 in
theorem kX12_groups_104 (l : Launch) (D : va_G) (K : Nat → ClassId) (sz : Nat) (ph0 : Nat) (pg1 : Nat) (pg2 : Nat) (pg3 : Nat) (pg4 : Nat) (pg5 : Nat) (pg6 : Nat) (pg7 : Nat) (pg8 : Nat) (pg9 : Nat) (pg10 : Nat) (pg11 : Nat) (pg12 : Nat) (pg13 : Nat) (pg14 : Nat) (pg15 : Nat) (pg16 : Nat) (pg17 : Nat) (pg18 : Nat) (pg19 : Nat) (pg20 : Nat) (pg21 : Nat) (pg22 : Nat) (pg23 : Nat) (pg24 : Nat) (pg25 : Nat) (pg26 : Nat) (pg27 : Nat) (pg28 : Nat) (pg29 : Nat) (pg30 : Nat) (pg31 : Nat) (pg32 : Nat) (pg33 : Nat) (pg34 : Nat) (pg35 : Nat) (pg36 : Nat) (pg37 : Nat) (pg38 : Nat) (pg39 : Nat) (pg40 : Nat) (pg41 : Nat) (pg42 : Nat) (pg43 : Nat) (pg44 : Nat) (pg45 : Nat) (pg46 : Nat) (pg47 : Nat) (pg48 : Nat) (pg49 : Nat) (pg50 : Nat) (pg51 : Nat) (pg52 : Nat) (pg53 : Nat) (pg54 : Nat) (pg55 : Nat) (pg56 : Nat) (pg57 : Nat) (pg58 : Nat) (pg59 : Nat) (pg60 : Nat) (pg61 : Nat) (pg62 : Nat) (pg63 : Nat) (pg64 : Nat) (pg65 : Nat) (pg66 : Nat) (px67 : Int32) (px68 : Int32) (px69 : Int32) (px70 : Int32) : uMi l yX12_groups cX12_groups 5 (some .int) { frames := 2, cells := 0, slots := 0, locals := 51 } [.ref ph0, .int px67, .int px68, .int px69, .int px70] D K [(ph0, .inr (12, [.int 0, .int 4, .int 4, .ref pg1, .ref pg2, .ref pg3, .ref pg4, .int 0, .ref pg5, .ref pg6, .int 0, .ref pg7, .ref pg8, .ref pg9, .ref pg10, .ref pg11, .ref pg12, .ref pg13, .int 0, .ref pg14, .ref pg15, .ref pg16, .ref pg17, .ref pg18, .ref pg19, .int 0, .ref pg20, .int 0, .int 0, .int 0, .ref pg21, .int 0, .int 0, .ref pg22, .int 0, .ref pg23, .ref pg24, .ref pg25, .ref pg26, .ref pg27, .ref pg28, .ref pg29, .ref pg30, .ref pg31, .ref pg32, .ref pg33, .ref pg34, .ref pg35, .ref pg36, .ref pg37, .ref pg38, .ref pg39, .ref pg40, .ref pg41, .ref pg42, .ref pg43, .ref pg44, .ref pg45, .int 0, .int 0, .int 0, .int 0, .int 0, .long 0, .int 0, .int 0, .int 0, .int 0, .int 0, .int (-1), .int 0, .ref pg46, .ref pg47, .ref pg48, .ref pg49, .ref pg50, .int 0, .int 0, .ref pg51, .ref pg52, .ref pg53, .ref pg54, .ref pg55, .ref pg56, .ref pg57, .ref pg58, .int 0, .int 0, .int 0, .int 0, .ref pg59, .ref pg60, .int 0, .ref pg61, .ref pg62, .ref pg63, .ref pg64, .ref pg65, .ref pg66]))] sz (qkX12_groups_104 ph0 pg1 pg2 pg3 pg4 pg5 pg6 pg7 pg8 pg9 pg10 pg11 pg12 pg13 pg14 pg15 pg16 pg17 pg18 pg19 pg20 pg21 pg22 pg23 pg24 pg25 pg26 pg27 pg28 pg29 pg30 pg31 pg32 pg33 pg34 pg35 pg36 pg37 pg38 pg39 pg40 pg41 pg42 pg43 pg44 pg45 pg46 pg47 pg48 pg49 pg50 pg51 pg52 pg53 pg54 pg55 pg56 pg57 pg58 pg59 pg60 pg61 pg62 pg63 pg64 pg65 pg66 px67 px68 px69 px70) (vkX12_groups_104 K ph0 pg1 pg2 pg3 pg4 pg5 pg6 pg7 pg8 pg9 pg10 pg11 pg12 pg13 pg14 pg15 pg16 pg17 pg18 pg19 pg20 pg21 pg22 pg23 pg24 pg25 pg26 pg27 pg28 pg29 pg30 pg31 pg32 pg33 pg34 pg35 pg36 pg37 pg38 pg39 pg40 pg41 pg42 pg43 pg44 pg45 pg46 pg47 pg48 pg49 pg50 pg51 pg52 pg53 pg54 pg55 pg56 pg57 pg58 pg59 pg60 pg61 pg62 pg63 pg64 pg65 pg66 px67 px68 px69 px70) := by
  refine uMet (Qc := uQi D (qkX12_groups_104 ph0 pg1 pg2 pg3 pg4 pg5 pg6 pg7 pg8 pg9 pg10 pg11 pg12 pg13 pg14 pg15 pg16 pg17 pg18 pg19 pg20 pg21 pg22 pg23 pg24 pg25 pg26 pg27 pg28 pg29 pg30 pg31 pg32 pg33 pg34 pg35 pg36 pg37 pg38 pg39 pg40 pg41 pg42 pg43 pg44 pg45 pg46 pg47 pg48 pg49 pg50 pg51 pg52 pg53 pg54 pg55 pg56 pg57 pg58 pg59 pg60 pg61 pg62 pg63 pg64 pg65 pg66 px67 px68 px69 px70) (vkX12_groups_104 K ph0 pg1 pg2 pg3 pg4 pg5 pg6 pg7 pg8 pg9 pg10 pg11 pg12 pg13 pg14 pg15 pg16 pg17 pg18 pg19 pg20 pg21 pg22 pg23 pg24 pg25 pg26 pg27 pg28 pg29 pg30 pg31 pg32 pg33 pg34 pg35 pg36 pg37 pg38 pg39 pg40 pg41 pg42 pg43 pg44 pg45 pg46 pg47 pg48 pg49 pg50 pg51 pg52 pg53 pg54 pg55 pg56 pg57 pg58 pg59 pg60 pg61 pg62 pg63 pg64 pg65 pg66 px67 px68 px69 px70)) (ret := (some .int)) (by decide) (Nat.le_of_ble_eq_true rfl) ?_
  intro p e s m below meth c A ls hAe hsz B hP hD hS hl
  have hx := B.1
  have hb := B.2.1
  have hl : lv_has ls 5 [(0, .ref ph0), (1, .int px67), (2, .int px68), (3, .int px69), (4, .int px70)] := hl
  refine lv_aload_n hx hb dX12_groups_0 rfl (lv_at hl 0 rfl) ?_
  refine lv_iconst (v := 0) hx hb dX12_groups_1 (by decide) ?_
  refine uPut (ci := 12) (C := RX12) (T := TX12) (N := 99) (ws' := [(ph0, .inr (12, [.int 0, .int 4, .int 4, .ref pg1, .ref pg2, .ref pg3, .ref pg4, .int 0, .ref pg5, .ref pg6, .int 0, .ref pg7, .ref pg8, .ref pg9, .ref pg10, .ref pg11, .ref pg12, .ref pg13, .int 0, .ref pg14, .ref pg15, .ref pg16, .ref pg17, .ref pg18, .ref pg19, .int 0, .ref pg20, .int 0, .int 0, .int 0, .ref pg21, .int 0, .int 0, .ref pg22, .int 0, .ref pg23, .ref pg24, .ref pg25, .ref pg26, .ref pg27, .ref pg28, .ref pg29, .ref pg30, .ref pg31, .ref pg32, .ref pg33, .ref pg34, .ref pg35, .ref pg36, .ref pg37, .ref pg38, .ref pg39, .ref pg40, .ref pg41, .ref pg42, .ref pg43, .ref pg44, .ref pg45, .int 0, .int 0, .int 0, .int 0, .int 0, .long 0, .int 0, .int 0, .int 0, .int 0, .int 0, .int (-1), .int 0, .ref pg46, .ref pg47, .ref pg48, .ref pg49, .ref pg50, .int 0, .int 0, .ref pg51, .ref pg52, .ref pg53, .ref pg54, .ref pg55, .ref pg56, .ref pg57, .ref pg58, .int 0, .int 0, .int 0, .int 0, .ref pg59, .ref pg60, .int 0, .ref pg61, .ref pg62, .ref pg63, .ref pg64, .ref pg65, .ref pg66]))]) B inlX12 tyX12_ok nmX12 hP hD hS 0 rfl rfl 0 rfl mfl_X12_224 rfl rfl rfl rfl rfl rfl dX12_groups_2 (fun H locs hP hD hS => ?_)
  refine lv_iload_n hx hb dX12_groups_5 rfl (lv_at hl 1 rfl) ?_
  refine lv_iload_n hx hb dX12_groups_6 rfl (lv_at hl 2 rfl) ?_
  refine lv_pc (q := 7) rfl ?_
  refine lv_iload_n hx hb dX12_groups_7 rfl (lv_at hl 3 rfl) ?_
  refine uSi (As := [.int px67, .int px68, .int px69]) (rest := []) (wr := [(ph0, .inr (12, [.int 0, .int 4, .int 4, .ref pg1, .ref pg2, .ref pg3, .ref pg4, .int 0, .ref pg5, .ref pg6, .int 0, .ref pg7, .ref pg8, .ref pg9, .ref pg10, .ref pg11, .ref pg12, .ref pg13, .int 0, .ref pg14, .ref pg15, .ref pg16, .ref pg17, .ref pg18, .ref pg19, .int 0, .ref pg20, .int 0, .int 0, .int 0, .ref pg21, .int 0, .int 0, .ref pg22, .int 0, .ref pg23, .ref pg24, .ref pg25, .ref pg26, .ref pg27, .ref pg28, .ref pg29, .ref pg30, .ref pg31, .ref pg32, .ref pg33, .ref pg34, .ref pg35, .ref pg36, .ref pg37, .ref pg38, .ref pg39, .ref pg40, .ref pg41, .ref pg42, .ref pg43, .ref pg44, .ref pg45, .int 0, .int 0, .int 0, .int 0, .int 0, .long 0, .int 0, .int 0, .int 0, .int 0, .int 0, .int (-1), .int 0, .ref pg46, .ref pg47, .ref pg48, .ref pg49, .ref pg50, .int 0, .int 0, .ref pg51, .ref pg52, .ref pg53, .ref pg54, .ref pg55, .ref pg56, .ref pg57, .ref pg58, .int 0, .int 0, .int 0, .int 0, .ref pg59, .ref pg60, .int 0, .ref pg61, .ref pg62, .ref pg63, .ref pg64, .ref pg65, .ref pg66]))]) [] B hl.1 hP hD hS [] [0] rfl rfl rfl (kX12_isAsked_100 l D K _ px67 px68 px69) wd_X12_isAsked mml_X12_347 rfl rfl ⟨Nat.le_of_ble_eq_true rfl, Nat.le_of_ble_eq_true rfl⟩ (Nat.le_of_ble_eq_true rfl) ⟨Nat.le_of_ble_eq_true rfl, Nat.le_of_ble_eq_true rfl⟩ dX12_groups_8 (fun r1 u H locs hw hP hD hS => ?_)
  try dsimp only at hw
  rcases hw with ⟨rfl, w2⟩ | ⟨rfl, ⟨w3, w4, w5, w6, w7, w8⟩⟩
  · have hP : va_P D vwCl [(ph0, .inr (12, [.int 0, .int 4, .int 4, .ref pg1, .ref pg2, .ref pg3, .ref pg4, .int 0, .ref pg5, .ref pg6, .int 0, .ref pg7, .ref pg8, .ref pg9, .ref pg10, .ref pg11, .ref pg12, .ref pg13, .int 0, .ref pg14, .ref pg15, .ref pg16, .ref pg17, .ref pg18, .ref pg19, .int 0, .ref pg20, .int 0, .int 0, .int 0, .ref pg21, .int 0, .int 0, .ref pg22, .int 0, .ref pg23, .ref pg24, .ref pg25, .ref pg26, .ref pg27, .ref pg28, .ref pg29, .ref pg30, .ref pg31, .ref pg32, .ref pg33, .ref pg34, .ref pg35, .ref pg36, .ref pg37, .ref pg38, .ref pg39, .ref pg40, .ref pg41, .ref pg42, .ref pg43, .ref pg44, .ref pg45, .int 0, .int 0, .int 0, .int 0, .int 0, .long 0, .int 0, .int 0, .int 0, .int 0, .int 0, .int (-1), .int 0, .ref pg46, .ref pg47, .ref pg48, .ref pg49, .ref pg50, .int 0, .int 0, .ref pg51, .ref pg52, .ref pg53, .ref pg54, .ref pg55, .ref pg56, .ref pg57, .ref pg58, .int 0, .int 0, .int 0, .int 0, .ref pg59, .ref pg60, .int 0, .ref pg61, .ref pg62, .ref pg63, .ref pg64, .ref pg65, .ref pg66]))] H := hP
    have hD : va_D A [(ph0, .inr (12, [.int 0, .int 4, .int 4, .ref pg1, .ref pg2, .ref pg3, .ref pg4, .int 0, .ref pg5, .ref pg6, .int 0, .ref pg7, .ref pg8, .ref pg9, .ref pg10, .ref pg11, .ref pg12, .ref pg13, .int 0, .ref pg14, .ref pg15, .ref pg16, .ref pg17, .ref pg18, .ref pg19, .int 0, .ref pg20, .int 0, .int 0, .int 0, .ref pg21, .int 0, .int 0, .ref pg22, .int 0, .ref pg23, .ref pg24, .ref pg25, .ref pg26, .ref pg27, .ref pg28, .ref pg29, .ref pg30, .ref pg31, .ref pg32, .ref pg33, .ref pg34, .ref pg35, .ref pg36, .ref pg37, .ref pg38, .ref pg39, .ref pg40, .ref pg41, .ref pg42, .ref pg43, .ref pg44, .ref pg45, .int 0, .int 0, .int 0, .int 0, .int 0, .long 0, .int 0, .int 0, .int 0, .int 0, .int 0, .int (-1), .int 0, .ref pg46, .ref pg47, .ref pg48, .ref pg49, .ref pg50, .int 0, .int 0, .ref pg51, .ref pg52, .ref pg53, .ref pg54, .ref pg55, .ref pg56, .ref pg57, .ref pg58, .int 0, .int 0, .int 0, .int 0, .ref pg59, .ref pg60, .int 0, .ref pg61, .ref pg62, .ref pg63, .ref pg64, .ref pg65, .ref pg66]))] := hD
    refine lv_if_eq (tgt := 22) hx hb dX12_groups_11 (by decide) (fun _ => ?_) (fun h9 => absurd (by decide) h9)
    refine lv_iconst (v := (-1)) hx hb dX12_groups_22 (by decide) ?_
    exact uRi () B (Or.inl ⟨rfl, Or.inl w2⟩) (uSub hP [] rfl) (hD.sub [] rfl rfl) hS dX12_groups_23
  have hP : va_P D vwCl [(ph0, .inr (12, [.int 0, .int 4, .int 4, .ref pg1, .ref pg2, .ref pg3, .ref pg4, .int 0, .ref pg5, .ref pg6, .int 0, .ref pg7, .ref pg8, .ref pg9, .ref pg10, .ref pg11, .ref pg12, .ref pg13, .int 0, .ref pg14, .ref pg15, .ref pg16, .ref pg17, .ref pg18, .ref pg19, .int 0, .ref pg20, .int 0, .int 0, .int 0, .ref pg21, .int 0, .int 0, .ref pg22, .int 0, .ref pg23, .ref pg24, .ref pg25, .ref pg26, .ref pg27, .ref pg28, .ref pg29, .ref pg30, .ref pg31, .ref pg32, .ref pg33, .ref pg34, .ref pg35, .ref pg36, .ref pg37, .ref pg38, .ref pg39, .ref pg40, .ref pg41, .ref pg42, .ref pg43, .ref pg44, .ref pg45, .int 0, .int 0, .int 0, .int 0, .int 0, .long 0, .int 0, .int 0, .int 0, .int 0, .int 0, .int (-1), .int 0, .ref pg46, .ref pg47, .ref pg48, .ref pg49, .ref pg50, .int 0, .int 0, .ref pg51, .ref pg52, .ref pg53, .ref pg54, .ref pg55, .ref pg56, .ref pg57, .ref pg58, .int 0, .int 0, .int 0, .int 0, .ref pg59, .ref pg60, .int 0, .ref pg61, .ref pg62, .ref pg63, .ref pg64, .ref pg65, .ref pg66]))] H := hP
  have hD : va_D A [(ph0, .inr (12, [.int 0, .int 4, .int 4, .ref pg1, .ref pg2, .ref pg3, .ref pg4, .int 0, .ref pg5, .ref pg6, .int 0, .ref pg7, .ref pg8, .ref pg9, .ref pg10, .ref pg11, .ref pg12, .ref pg13, .int 0, .ref pg14, .ref pg15, .ref pg16, .ref pg17, .ref pg18, .ref pg19, .int 0, .ref pg20, .int 0, .int 0, .int 0, .ref pg21, .int 0, .int 0, .ref pg22, .int 0, .ref pg23, .ref pg24, .ref pg25, .ref pg26, .ref pg27, .ref pg28, .ref pg29, .ref pg30, .ref pg31, .ref pg32, .ref pg33, .ref pg34, .ref pg35, .ref pg36, .ref pg37, .ref pg38, .ref pg39, .ref pg40, .ref pg41, .ref pg42, .ref pg43, .ref pg44, .ref pg45, .int 0, .int 0, .int 0, .int 0, .int 0, .long 0, .int 0, .int 0, .int 0, .int 0, .int 0, .int (-1), .int 0, .ref pg46, .ref pg47, .ref pg48, .ref pg49, .ref pg50, .int 0, .int 0, .ref pg51, .ref pg52, .ref pg53, .ref pg54, .ref pg55, .ref pg56, .ref pg57, .ref pg58, .int 0, .int 0, .int 0, .int 0, .ref pg59, .ref pg60, .int 0, .ref pg61, .ref pg62, .ref pg63, .ref pg64, .ref pg65, .ref pg66]))] := hD
  refine lv_if_eq (tgt := 22) hx hb dX12_groups_11 (by decide) (fun h9 => absurd h9 (by decide)) (fun _ => ?_)
  refine lv_iload hx hb dX12_groups_14 (lv_at hl 4 rfl) ?_
  refine uSi (As := [.int px70]) (rest := []) (wr := [(ph0, .inr (12, [.int 0, .int 4, .int 4, .ref pg1, .ref pg2, .ref pg3, .ref pg4, .int 0, .ref pg5, .ref pg6, .int 0, .ref pg7, .ref pg8, .ref pg9, .ref pg10, .ref pg11, .ref pg12, .ref pg13, .int 0, .ref pg14, .ref pg15, .ref pg16, .ref pg17, .ref pg18, .ref pg19, .int 0, .ref pg20, .int 0, .int 0, .int 0, .ref pg21, .int 0, .int 0, .ref pg22, .int 0, .ref pg23, .ref pg24, .ref pg25, .ref pg26, .ref pg27, .ref pg28, .ref pg29, .ref pg30, .ref pg31, .ref pg32, .ref pg33, .ref pg34, .ref pg35, .ref pg36, .ref pg37, .ref pg38, .ref pg39, .ref pg40, .ref pg41, .ref pg42, .ref pg43, .ref pg44, .ref pg45, .int 0, .int 0, .int 0, .int 0, .int 0, .long 0, .int 0, .int 0, .int 0, .int 0, .int 0, .int (-1), .int 0, .ref pg46, .ref pg47, .ref pg48, .ref pg49, .ref pg50, .int 0, .int 0, .ref pg51, .ref pg52, .ref pg53, .ref pg54, .ref pg55, .ref pg56, .ref pg57, .ref pg58, .int 0, .int 0, .int 0, .int 0, .ref pg59, .ref pg60, .int 0, .ref pg61, .ref pg62, .ref pg63, .ref pg64, .ref pg65, .ref pg66]))]) [] B hl.1 hP hD hS [] [0] rfl rfl rfl (kX12_isLevel_101 l D K _ px70) wd_X12_isLevel mml_X12_350 rfl rfl ⟨Nat.le_of_ble_eq_true rfl, Nat.le_of_ble_eq_true rfl⟩ (Nat.le_of_ble_eq_true rfl) ⟨Nat.le_of_ble_eq_true rfl, Nat.le_of_ble_eq_true rfl⟩ dX12_groups_16 (fun r9 u H locs hw hP hD hS => ?_)
  try dsimp only at hw
  rcases hw with ⟨rfl, w10⟩ | ⟨rfl, ⟨w11, w12⟩⟩
  · have hP : va_P D vwCl [(ph0, .inr (12, [.int 0, .int 4, .int 4, .ref pg1, .ref pg2, .ref pg3, .ref pg4, .int 0, .ref pg5, .ref pg6, .int 0, .ref pg7, .ref pg8, .ref pg9, .ref pg10, .ref pg11, .ref pg12, .ref pg13, .int 0, .ref pg14, .ref pg15, .ref pg16, .ref pg17, .ref pg18, .ref pg19, .int 0, .ref pg20, .int 0, .int 0, .int 0, .ref pg21, .int 0, .int 0, .ref pg22, .int 0, .ref pg23, .ref pg24, .ref pg25, .ref pg26, .ref pg27, .ref pg28, .ref pg29, .ref pg30, .ref pg31, .ref pg32, .ref pg33, .ref pg34, .ref pg35, .ref pg36, .ref pg37, .ref pg38, .ref pg39, .ref pg40, .ref pg41, .ref pg42, .ref pg43, .ref pg44, .ref pg45, .int 0, .int 0, .int 0, .int 0, .int 0, .long 0, .int 0, .int 0, .int 0, .int 0, .int 0, .int (-1), .int 0, .ref pg46, .ref pg47, .ref pg48, .ref pg49, .ref pg50, .int 0, .int 0, .ref pg51, .ref pg52, .ref pg53, .ref pg54, .ref pg55, .ref pg56, .ref pg57, .ref pg58, .int 0, .int 0, .int 0, .int 0, .ref pg59, .ref pg60, .int 0, .ref pg61, .ref pg62, .ref pg63, .ref pg64, .ref pg65, .ref pg66]))] H := hP
    have hD : va_D A [(ph0, .inr (12, [.int 0, .int 4, .int 4, .ref pg1, .ref pg2, .ref pg3, .ref pg4, .int 0, .ref pg5, .ref pg6, .int 0, .ref pg7, .ref pg8, .ref pg9, .ref pg10, .ref pg11, .ref pg12, .ref pg13, .int 0, .ref pg14, .ref pg15, .ref pg16, .ref pg17, .ref pg18, .ref pg19, .int 0, .ref pg20, .int 0, .int 0, .int 0, .ref pg21, .int 0, .int 0, .ref pg22, .int 0, .ref pg23, .ref pg24, .ref pg25, .ref pg26, .ref pg27, .ref pg28, .ref pg29, .ref pg30, .ref pg31, .ref pg32, .ref pg33, .ref pg34, .ref pg35, .ref pg36, .ref pg37, .ref pg38, .ref pg39, .ref pg40, .ref pg41, .ref pg42, .ref pg43, .ref pg44, .ref pg45, .int 0, .int 0, .int 0, .int 0, .int 0, .long 0, .int 0, .int 0, .int 0, .int 0, .int 0, .int (-1), .int 0, .ref pg46, .ref pg47, .ref pg48, .ref pg49, .ref pg50, .int 0, .int 0, .ref pg51, .ref pg52, .ref pg53, .ref pg54, .ref pg55, .ref pg56, .ref pg57, .ref pg58, .int 0, .int 0, .int 0, .int 0, .ref pg59, .ref pg60, .int 0, .ref pg61, .ref pg62, .ref pg63, .ref pg64, .ref pg65, .ref pg66]))] := hD
    refine lv_if_ne (tgt := 24) hx hb dX12_groups_19 (by decide) (fun _ => ?_) (fun h9 => absurd h9 (by decide))
    refine lv_pc (q := 24) rfl ?_
    refine lv_aload_n hx hb dX12_groups_24 rfl (lv_at hl 0 rfl) ?_
    refine lv_iload_n hx hb dX12_groups_25 rfl (lv_at hl 1 rfl) ?_
    refine lv_iload_n hx hb dX12_groups_26 rfl (lv_at hl 2 rfl) ?_
    refine lv_iload_n hx hb dX12_groups_27 rfl (lv_at hl 3 rfl) ?_
    refine lv_iload hx hb dX12_groups_28 (lv_at hl 4 rfl) ?_
    refine uVv (As := [.int px67, .int px68, .int px69, .int px70]) (rest := []) (wr := []) [(ph0, .inr (12, [.int 0, .int 4, .int 4, .ref pg1, .ref pg2, .ref pg3, .ref pg4, .int 0, .ref pg5, .ref pg6, .int 0, .ref pg7, .ref pg8, .ref pg9, .ref pg10, .ref pg11, .ref pg12, .ref pg13, .int 0, .ref pg14, .ref pg15, .ref pg16, .ref pg17, .ref pg18, .ref pg19, .int 0, .ref pg20, .int 0, .int 0, .int 0, .ref pg21, .int 0, .int 0, .ref pg22, .int 0, .ref pg23, .ref pg24, .ref pg25, .ref pg26, .ref pg27, .ref pg28, .ref pg29, .ref pg30, .ref pg31, .ref pg32, .ref pg33, .ref pg34, .ref pg35, .ref pg36, .ref pg37, .ref pg38, .ref pg39, .ref pg40, .ref pg41, .ref pg42, .ref pg43, .ref pg44, .ref pg45, .int 0, .int 0, .int 0, .int 0, .int 0, .long 0, .int 0, .int 0, .int 0, .int 0, .int 0, .int (-1), .int 0, .ref pg46, .ref pg47, .ref pg48, .ref pg49, .ref pg50, .int 0, .int 0, .ref pg51, .ref pg52, .ref pg53, .ref pg54, .ref pg55, .ref pg56, .ref pg57, .ref pg58, .int 0, .int 0, .int 0, .int 0, .ref pg59, .ref pg60, .int 0, .ref pg61, .ref pg62, .ref pg63, .ref pg64, .ref pg65, .ref pg66]))] B hl.1 hP hD hS [0] [] rfl rfl rfl (kX12_lines_102 l D K _ ph0 pg1 pg2 pg3 pg4 pg5 pg6 pg7 pg8 pg9 pg10 pg11 pg12 pg13 pg14 pg15 pg16 pg17 pg18 pg19 pg20 pg21 pg22 pg23 pg24 pg25 pg26 pg27 pg28 pg29 pg30 pg31 pg32 pg33 pg34 pg35 pg36 pg37 pg38 pg39 pg40 pg41 pg42 pg43 pg44 pg45 pg46 pg47 pg48 pg49 pg50 pg51 pg52 pg53 pg54 pg55 pg56 pg57 pg58 pg59 pg60 pg61 pg62 pg63 pg64 pg65 pg66 px67 px68 px69 px70) wd_X12_lines mml_X12_353 rfl rfl rfl rfl ⟨Nat.le_of_ble_eq_true rfl, Nat.le_of_ble_eq_true rfl⟩ (Nat.le_of_ble_eq_true rfl) ⟨Nat.le_of_ble_eq_true rfl, Nat.le_of_ble_eq_true rfl⟩ dX12_groups_30 (fun u H locs hw hP hD hS => ?_)
    try dsimp only at hw
    have hP : va_P D vwCl [(ph0, .inr (12, [.int 0, .int 4, .int 4, .ref pg1, .ref pg2, .ref pg3, .ref pg4, .int 0, .ref pg5, .ref pg6, .int 0, .ref pg7, .ref pg8, .ref pg9, .ref pg10, .ref pg11, .ref pg12, .ref pg13, .int 0, .ref pg14, .ref pg15, .ref pg16, .ref pg17, .ref pg18, .ref pg19, .int 0, .ref pg20, .int 0, .int 0, .int 0, .ref pg21, .int 0, .int 0, .ref pg22, .int 0, .ref pg23, .ref pg24, .ref pg25, .ref pg26, .ref pg27, .ref pg28, .ref pg29, .ref pg30, .ref pg31, .ref pg32, .ref pg33, .ref pg34, .ref pg35, .ref pg36, .ref pg37, .ref pg38, .ref pg39, .ref pg40, .ref pg41, .ref pg42, .ref pg43, .ref pg44, .ref pg45, .int 0, .int 0, .int 0, .int 0, .int 0, .long 0, .int 0, .int 0, .int 0, .int 0, .int 0, .int (-1), .int 0, .ref pg46, .ref pg47, .ref pg48, .ref pg49, .ref pg50, .int 0, .int 0, .ref pg51, .ref pg52, .ref pg53, .ref pg54, .ref pg55, .ref pg56, .ref pg57, .ref pg58, .int 0, .int 0, .int 0, .int 0, .ref pg59, .ref pg60, .int 0, .ref pg61, .ref pg62, .ref pg63, .ref pg64, .ref pg65, .ref pg66]))] H := hP
    have hD : va_D A [(ph0, .inr (12, [.int 0, .int 4, .int 4, .ref pg1, .ref pg2, .ref pg3, .ref pg4, .int 0, .ref pg5, .ref pg6, .int 0, .ref pg7, .ref pg8, .ref pg9, .ref pg10, .ref pg11, .ref pg12, .ref pg13, .int 0, .ref pg14, .ref pg15, .ref pg16, .ref pg17, .ref pg18, .ref pg19, .int 0, .ref pg20, .int 0, .int 0, .int 0, .ref pg21, .int 0, .int 0, .ref pg22, .int 0, .ref pg23, .ref pg24, .ref pg25, .ref pg26, .ref pg27, .ref pg28, .ref pg29, .ref pg30, .ref pg31, .ref pg32, .ref pg33, .ref pg34, .ref pg35, .ref pg36, .ref pg37, .ref pg38, .ref pg39, .ref pg40, .ref pg41, .ref pg42, .ref pg43, .ref pg44, .ref pg45, .int 0, .int 0, .int 0, .int 0, .int 0, .long 0, .int 0, .int 0, .int 0, .int 0, .int 0, .int (-1), .int 0, .ref pg46, .ref pg47, .ref pg48, .ref pg49, .ref pg50, .int 0, .int 0, .ref pg51, .ref pg52, .ref pg53, .ref pg54, .ref pg55, .ref pg56, .ref pg57, .ref pg58, .int 0, .int 0, .int 0, .int 0, .ref pg59, .ref pg60, .int 0, .ref pg61, .ref pg62, .ref pg63, .ref pg64, .ref pg65, .ref pg66]))] := hD
    refine lv_pc (q := 33) rfl ?_
    refine lv_aload_n hx hb dX12_groups_33 rfl (lv_at hl 0 rfl) ?_
    refine lv_aload_n hx hb dX12_groups_34 rfl (lv_at hl 0 rfl) ?_
    refine uGet (ci := 12) (C := RX12) (T := TX12) (N := 99) (v := .int 0) B inlX12 hP 0 rfl rfl 27 rfl mfl_X12_335 rfl rfl dX12_groups_35 ?_
    refine uVi (As := [.int 0]) (rest := []) (wr := []) [(ph0, .inr (12, [.int 0, .int 4, .int 4, .ref pg1, .ref pg2, .ref pg3, .ref pg4, .int 0, .ref pg5, .ref pg6, .int 0, .ref pg7, .ref pg8, .ref pg9, .ref pg10, .ref pg11, .ref pg12, .ref pg13, .int 0, .ref pg14, .ref pg15, .ref pg16, .ref pg17, .ref pg18, .ref pg19, .int 0, .ref pg20, .int 0, .int 0, .int 0, .ref pg21, .int 0, .int 0, .ref pg22, .int 0, .ref pg23, .ref pg24, .ref pg25, .ref pg26, .ref pg27, .ref pg28, .ref pg29, .ref pg30, .ref pg31, .ref pg32, .ref pg33, .ref pg34, .ref pg35, .ref pg36, .ref pg37, .ref pg38, .ref pg39, .ref pg40, .ref pg41, .ref pg42, .ref pg43, .ref pg44, .ref pg45, .int 0, .int 0, .int 0, .int 0, .int 0, .long 0, .int 0, .int 0, .int 0, .int 0, .int 0, .int (-1), .int 0, .ref pg46, .ref pg47, .ref pg48, .ref pg49, .ref pg50, .int 0, .int 0, .ref pg51, .ref pg52, .ref pg53, .ref pg54, .ref pg55, .ref pg56, .ref pg57, .ref pg58, .int 0, .int 0, .int 0, .int 0, .ref pg59, .ref pg60, .int 0, .ref pg61, .ref pg62, .ref pg63, .ref pg64, .ref pg65, .ref pg66]))] B hl.1 hP hD hS [0] [] rfl rfl rfl (kX12_groupsOf_103 l D K _ ph0 pg1 pg2 pg3 pg4 pg5 pg6 pg7 pg8 pg9 pg10 pg11 pg12 pg13 pg14 pg15 pg16 pg17 pg18 pg19 pg20 pg21 pg22 pg23 pg24 pg25 pg26 pg27 pg28 pg29 pg30 pg31 pg32 pg33 pg34 pg35 pg36 pg37 pg38 pg39 pg40 pg41 pg42 pg43 pg44 pg45 pg46 pg47 pg48 pg49 pg50 pg51 pg52 pg53 pg54 pg55 pg56 pg57 pg58 pg59 pg60 pg61 pg62 pg63 pg64 pg65 pg66) wd_X12_groupsOf mml_X12_357 rfl rfl rfl rfl ⟨Nat.le_of_ble_eq_true rfl, Nat.le_of_ble_eq_true rfl⟩ (Nat.le_of_ble_eq_true rfl) ⟨Nat.le_of_ble_eq_true rfl, Nat.le_of_ble_eq_true rfl⟩ dX12_groups_38 (fun r14 u H locs hw hP hD hS => ?_)
    try dsimp only at hw
    rcases hw with rfl
    have hP : va_P D vwCl [(ph0, .inr (12, [.int 0, .int 4, .int 4, .ref pg1, .ref pg2, .ref pg3, .ref pg4, .int 0, .ref pg5, .ref pg6, .int 0, .ref pg7, .ref pg8, .ref pg9, .ref pg10, .ref pg11, .ref pg12, .ref pg13, .int 0, .ref pg14, .ref pg15, .ref pg16, .ref pg17, .ref pg18, .ref pg19, .int 0, .ref pg20, .int 0, .int 0, .int 0, .ref pg21, .int 0, .int 0, .ref pg22, .int 0, .ref pg23, .ref pg24, .ref pg25, .ref pg26, .ref pg27, .ref pg28, .ref pg29, .ref pg30, .ref pg31, .ref pg32, .ref pg33, .ref pg34, .ref pg35, .ref pg36, .ref pg37, .ref pg38, .ref pg39, .ref pg40, .ref pg41, .ref pg42, .ref pg43, .ref pg44, .ref pg45, .int 0, .int 0, .int 0, .int 0, .int 0, .long 0, .int 0, .int 0, .int 0, .int 0, .int 0, .int (-1), .int 0, .ref pg46, .ref pg47, .ref pg48, .ref pg49, .ref pg50, .int 0, .int 0, .ref pg51, .ref pg52, .ref pg53, .ref pg54, .ref pg55, .ref pg56, .ref pg57, .ref pg58, .int 0, .int 0, .int 0, .int 0, .ref pg59, .ref pg60, .int 0, .ref pg61, .ref pg62, .ref pg63, .ref pg64, .ref pg65, .ref pg66]))] H := hP
    have hD : va_D A [(ph0, .inr (12, [.int 0, .int 4, .int 4, .ref pg1, .ref pg2, .ref pg3, .ref pg4, .int 0, .ref pg5, .ref pg6, .int 0, .ref pg7, .ref pg8, .ref pg9, .ref pg10, .ref pg11, .ref pg12, .ref pg13, .int 0, .ref pg14, .ref pg15, .ref pg16, .ref pg17, .ref pg18, .ref pg19, .int 0, .ref pg20, .int 0, .int 0, .int 0, .ref pg21, .int 0, .int 0, .ref pg22, .int 0, .ref pg23, .ref pg24, .ref pg25, .ref pg26, .ref pg27, .ref pg28, .ref pg29, .ref pg30, .ref pg31, .ref pg32, .ref pg33, .ref pg34, .ref pg35, .ref pg36, .ref pg37, .ref pg38, .ref pg39, .ref pg40, .ref pg41, .ref pg42, .ref pg43, .ref pg44, .ref pg45, .int 0, .int 0, .int 0, .int 0, .int 0, .long 0, .int 0, .int 0, .int 0, .int 0, .int 0, .int (-1), .int 0, .ref pg46, .ref pg47, .ref pg48, .ref pg49, .ref pg50, .int 0, .int 0, .ref pg51, .ref pg52, .ref pg53, .ref pg54, .ref pg55, .ref pg56, .ref pg57, .ref pg58, .int 0, .int 0, .int 0, .int 0, .ref pg59, .ref pg60, .int 0, .ref pg61, .ref pg62, .ref pg63, .ref pg64, .ref pg65, .ref pg66]))] := hD
    exact uRi () B (Or.inr ⟨rfl, ⟨w3, w4, w5, w6, w7, w8, w10⟩⟩) (uSub hP [] rfl) (hD.sub [] rfl rfl) hS dX12_groups_41
  have hP : va_P D vwCl [(ph0, .inr (12, [.int 0, .int 4, .int 4, .ref pg1, .ref pg2, .ref pg3, .ref pg4, .int 0, .ref pg5, .ref pg6, .int 0, .ref pg7, .ref pg8, .ref pg9, .ref pg10, .ref pg11, .ref pg12, .ref pg13, .int 0, .ref pg14, .ref pg15, .ref pg16, .ref pg17, .ref pg18, .ref pg19, .int 0, .ref pg20, .int 0, .int 0, .int 0, .ref pg21, .int 0, .int 0, .ref pg22, .int 0, .ref pg23, .ref pg24, .ref pg25, .ref pg26, .ref pg27, .ref pg28, .ref pg29, .ref pg30, .ref pg31, .ref pg32, .ref pg33, .ref pg34, .ref pg35, .ref pg36, .ref pg37, .ref pg38, .ref pg39, .ref pg40, .ref pg41, .ref pg42, .ref pg43, .ref pg44, .ref pg45, .int 0, .int 0, .int 0, .int 0, .int 0, .long 0, .int 0, .int 0, .int 0, .int 0, .int 0, .int (-1), .int 0, .ref pg46, .ref pg47, .ref pg48, .ref pg49, .ref pg50, .int 0, .int 0, .ref pg51, .ref pg52, .ref pg53, .ref pg54, .ref pg55, .ref pg56, .ref pg57, .ref pg58, .int 0, .int 0, .int 0, .int 0, .ref pg59, .ref pg60, .int 0, .ref pg61, .ref pg62, .ref pg63, .ref pg64, .ref pg65, .ref pg66]))] H := hP
  have hD : va_D A [(ph0, .inr (12, [.int 0, .int 4, .int 4, .ref pg1, .ref pg2, .ref pg3, .ref pg4, .int 0, .ref pg5, .ref pg6, .int 0, .ref pg7, .ref pg8, .ref pg9, .ref pg10, .ref pg11, .ref pg12, .ref pg13, .int 0, .ref pg14, .ref pg15, .ref pg16, .ref pg17, .ref pg18, .ref pg19, .int 0, .ref pg20, .int 0, .int 0, .int 0, .ref pg21, .int 0, .int 0, .ref pg22, .int 0, .ref pg23, .ref pg24, .ref pg25, .ref pg26, .ref pg27, .ref pg28, .ref pg29, .ref pg30, .ref pg31, .ref pg32, .ref pg33, .ref pg34, .ref pg35, .ref pg36, .ref pg37, .ref pg38, .ref pg39, .ref pg40, .ref pg41, .ref pg42, .ref pg43, .ref pg44, .ref pg45, .int 0, .int 0, .int 0, .int 0, .int 0, .long 0, .int 0, .int 0, .int 0, .int 0, .int 0, .int (-1), .int 0, .ref pg46, .ref pg47, .ref pg48, .ref pg49, .ref pg50, .int 0, .int 0, .ref pg51, .ref pg52, .ref pg53, .ref pg54, .ref pg55, .ref pg56, .ref pg57, .ref pg58, .int 0, .int 0, .int 0, .int 0, .ref pg59, .ref pg60, .int 0, .ref pg61, .ref pg62, .ref pg63, .ref pg64, .ref pg65, .ref pg66]))] := hD
  refine lv_if_ne (tgt := 24) hx hb dX12_groups_19 (by decide) (fun h9 => absurd (by decide) h9) (fun _ => ?_)
  refine lv_pc (q := 22) rfl ?_
  refine lv_iconst (v := (-1)) hx hb dX12_groups_22 (by decide) ?_
  exact uRi () B (Or.inl ⟨rfl, Or.inr ⟨w3, w4, w5, w6, w7, w8, w11, w12⟩⟩) (uSub hP [] rfl) (hD.sub [] rfl rfl) hS dX12_groups_23
def qkX1_cutBits_105 (ph0 : Nat) (pg1 : Nat) (pg2 : Nat) (pg3 : Nat) (pg4 : Nat) (pg5 : Nat) : Int32 → (Unit) → Prop := (fun (r : Int32) (u : Unit) => r = 0)
def vkX1_cutBits_105 (K : Nat → ClassId) (ph0 : Nat) (pg1 : Nat) (pg2 : Nat) (pg3 : Nat) (pg4 : Nat) (pg5 : Nat) : (Unit) → va_W := (fun (u : Unit) => [(ph0, .inr (1, [.ref pg1, .ref pg2, .ref pg3, .ref pg4, .ref pg5, .int 0, .int 0]))])
set_option maxHeartbeats 4000000 in
set_option maxRecDepth 100000 in
theorem kX1_cutBits_105 (l : Launch) (D : va_G) (K : Nat → ClassId) (sz : Nat) (ph0 : Nat) (pg1 : Nat) (pg2 : Nat) (pg3 : Nat) (pg4 : Nat) (pg5 : Nat) : uMi l yX1_cutBits cX1_cutBits 4 (some .int) { frames := 1, cells := 0, slots := 0, locals := 24 } [.ref ph0] D K [(ph0, .inr (1, [.ref pg1, .ref pg2, .ref pg3, .ref pg4, .ref pg5, .int 0, .int 0]))] sz (qkX1_cutBits_105 ph0 pg1 pg2 pg3 pg4 pg5) (vkX1_cutBits_105 K ph0 pg1 pg2 pg3 pg4 pg5) := by
  refine uMet (Qc := uQi D (qkX1_cutBits_105 ph0 pg1 pg2 pg3 pg4 pg5) (vkX1_cutBits_105 K ph0 pg1 pg2 pg3 pg4 pg5)) (ret := (some .int)) (by decide) (Nat.le_of_ble_eq_true rfl) ?_
  intro p e s m below meth c A ls hAe hsz B hP hD hS hl
  have hx := B.1
  have hb := B.2.1
  have hl : lv_has ls 4 [(0, .ref ph0)] := hl
  refine lv_aload_n hx hb dX1_cutBits_0 rfl (lv_at hl 0 rfl) ?_
  refine lv_aload_n hx hb dX1_cutBits_1 rfl (lv_at hl 0 rfl) ?_
  refine uGet (ci := 1) (C := RX1) (T := TX1) (N := 7) (v := .int 0) B inlX1 hP 0 rfl rfl 5 rfl mfl_X1_18 rfl rfl dX1_cutBits_2 ?_
  refine uVi (As := [.int 0]) (rest := []) (wr := []) [(ph0, .inr (1, [.ref pg1, .ref pg2, .ref pg3, .ref pg4, .ref pg5, .int 0, .int 0]))] B hl.1 hP hD hS [0] [] rfl rfl rfl (kX1_groupsAmong_98 l D K _ ph0 pg1 pg2 pg3 pg4 pg5) wd_X1_groupsAmong mml_X1_85 rfl rfl rfl rfl ⟨Nat.le_of_ble_eq_true rfl, Nat.le_of_ble_eq_true rfl⟩ (Nat.le_of_ble_eq_true rfl) ⟨Nat.le_of_ble_eq_true rfl, Nat.le_of_ble_eq_true rfl⟩ dX1_cutBits_5 (fun r1 u H locs hw hP hD hS => ?_)
  try dsimp only at hw
  rcases hw with rfl
  have hP : va_P D vwCl [(ph0, .inr (1, [.ref pg1, .ref pg2, .ref pg3, .ref pg4, .ref pg5, .int 0, .int 0]))] H := hP
  have hD : va_D A [(ph0, .inr (1, [.ref pg1, .ref pg2, .ref pg3, .ref pg4, .ref pg5, .int 0, .int 0]))] := hD
  refine lv_istore_n (lv' := [(1, .int 0), (0, .ref ph0)]) hx hb dX1_cutBits_8 rfl hl (by decide) rfl (fun ls hl => ?_)
  refine lv_pc (q := 9) rfl ?_
  refine lv_iconst (v := 0) hx hb dX1_cutBits_9 (by decide) ?_
  refine lv_istore_n (lv' := [(2, .int 0), (1, .int 0), (0, .ref ph0)]) hx hb dX1_cutBits_10 rfl hl (by decide) rfl (fun ls hl => ?_)
  refine lv_iconst (v := 0) hx hb dX1_cutBits_11 (by decide) ?_
  refine lv_istore_n (lv' := [(3, .int 0), (2, .int 0), (1, .int 0), (0, .ref ph0)]) hx hb dX1_cutBits_12 rfl hl (by decide) rfl (fun ls hl => ?_)
  refine lv_iload_n hx hb dX1_cutBits_13 rfl (lv_at hl 0 rfl) ?_
  refine lv_bipush (v := 12) hx hb dX1_cutBits_14 (by decide) ?_
  refine lv_pc (q := 16) rfl ?_
  refine lv_icmp_ge (tgt := 61) hx hb dX1_cutBits_16 (by decide) (fun h9 => absurd h9 (by decide)) (fun _ => ?_)
  refine lv_aload_n hx hb dX1_cutBits_19 rfl (lv_at hl 3 rfl) ?_
  refine uGet (ci := 1) (C := RX1) (T := TX1) (N := 7) (v := .int 0) B inlX1 hP 0 rfl rfl 5 rfl mfl_X1_18 rfl rfl dX1_cutBits_20 ?_
  refine lv_iload_n hx hb dX1_cutBits_23 rfl (lv_at hl 0 rfl) ?_
  refine lv_ishr hx hb dX1_cutBits_24 ?_
  refine lv_fixi (y := 0) (by decide) ?_
  refine lv_iconst (v := 1) hx hb dX1_cutBits_25 (by decide) ?_
  refine lv_pc (q := 26) rfl ?_
  refine lv_iand hx hb dX1_cutBits_26 ?_
  refine lv_fixi (y := 0) (by decide) ?_
  refine lv_iconst (v := 1) hx hb dX1_cutBits_27 (by decide) ?_
  refine lv_icmp_ne (tgt := 55) hx hb dX1_cutBits_28 (by decide) (fun _ => ?_) (fun h9 => absurd h9 (by decide))
  refine lv_iinc (v := 1) (lv' := [(3, .int 1), (2, .int 0), (1, .int 0), (0, .ref ph0)]) hx hb dX1_cutBits_55 hl (k := 0) rfl (by decide) (by decide) rfl (fun ls hl => ?_)
  refine lv_goto (tgt := 13) hx hb dX1_cutBits_58 (by decide) ?_
  refine lv_iload_n hx hb dX1_cutBits_13 rfl (lv_at hl 0 rfl) ?_
  refine lv_pc (q := 14) rfl ?_
  refine lv_bipush (v := 12) hx hb dX1_cutBits_14 (by decide) ?_
  refine lv_icmp_ge (tgt := 61) hx hb dX1_cutBits_16 (by decide) (fun h9 => absurd h9 (by decide)) (fun _ => ?_)
  refine lv_aload_n hx hb dX1_cutBits_19 rfl (lv_at hl 3 rfl) ?_
  refine uGet (ci := 1) (C := RX1) (T := TX1) (N := 7) (v := .int 0) B inlX1 hP 0 rfl rfl 5 rfl mfl_X1_18 rfl rfl dX1_cutBits_20 ?_
  refine lv_iload_n hx hb dX1_cutBits_23 rfl (lv_at hl 0 rfl) ?_
  refine lv_ishr hx hb dX1_cutBits_24 ?_
  refine lv_fixi (y := 0) (by decide) ?_
  refine lv_pc (q := 25) rfl ?_
  refine lv_iconst (v := 1) hx hb dX1_cutBits_25 (by decide) ?_
  refine lv_iand hx hb dX1_cutBits_26 ?_
  refine lv_fixi (y := 0) (by decide) ?_
  refine lv_iconst (v := 1) hx hb dX1_cutBits_27 (by decide) ?_
  refine lv_icmp_ne (tgt := 55) hx hb dX1_cutBits_28 (by decide) (fun _ => ?_) (fun h9 => absurd h9 (by decide))
  refine lv_iinc (v := 2) (lv' := [(3, .int 2), (2, .int 0), (1, .int 0), (0, .ref ph0)]) hx hb dX1_cutBits_55 hl (k := 0) rfl (by decide) (by decide) rfl (fun ls hl => ?_)
  refine lv_goto (tgt := 13) hx hb dX1_cutBits_58 (by decide) ?_
  refine lv_pc (q := 13) rfl ?_
  refine lv_iload_n hx hb dX1_cutBits_13 rfl (lv_at hl 0 rfl) ?_
  refine lv_bipush (v := 12) hx hb dX1_cutBits_14 (by decide) ?_
  refine lv_icmp_ge (tgt := 61) hx hb dX1_cutBits_16 (by decide) (fun h9 => absurd h9 (by decide)) (fun _ => ?_)
  refine lv_aload_n hx hb dX1_cutBits_19 rfl (lv_at hl 3 rfl) ?_
  refine uGet (ci := 1) (C := RX1) (T := TX1) (N := 7) (v := .int 0) B inlX1 hP 0 rfl rfl 5 rfl mfl_X1_18 rfl rfl dX1_cutBits_20 ?_
  refine lv_iload_n hx hb dX1_cutBits_23 rfl (lv_at hl 0 rfl) ?_
  refine lv_pc (q := 24) rfl ?_
  refine lv_ishr hx hb dX1_cutBits_24 ?_
  refine lv_fixi (y := 0) (by decide) ?_
  refine lv_iconst (v := 1) hx hb dX1_cutBits_25 (by decide) ?_
  refine lv_iand hx hb dX1_cutBits_26 ?_
  refine lv_fixi (y := 0) (by decide) ?_
  refine lv_iconst (v := 1) hx hb dX1_cutBits_27 (by decide) ?_
  refine lv_icmp_ne (tgt := 55) hx hb dX1_cutBits_28 (by decide) (fun _ => ?_) (fun h9 => absurd h9 (by decide))
  refine lv_iinc (v := 3) (lv' := [(3, .int 3), (2, .int 0), (1, .int 0), (0, .ref ph0)]) hx hb dX1_cutBits_55 hl (k := 0) rfl (by decide) (by decide) rfl (fun ls hl => ?_)
  refine lv_pc (q := 58) rfl ?_
  refine lv_goto (tgt := 13) hx hb dX1_cutBits_58 (by decide) ?_
  refine lv_iload_n hx hb dX1_cutBits_13 rfl (lv_at hl 0 rfl) ?_
  refine lv_bipush (v := 12) hx hb dX1_cutBits_14 (by decide) ?_
  refine lv_icmp_ge (tgt := 61) hx hb dX1_cutBits_16 (by decide) (fun h9 => absurd h9 (by decide)) (fun _ => ?_)
  refine lv_aload_n hx hb dX1_cutBits_19 rfl (lv_at hl 3 rfl) ?_
  refine uGet (ci := 1) (C := RX1) (T := TX1) (N := 7) (v := .int 0) B inlX1 hP 0 rfl rfl 5 rfl mfl_X1_18 rfl rfl dX1_cutBits_20 ?_
  refine lv_pc (q := 23) rfl ?_
  refine lv_iload_n hx hb dX1_cutBits_23 rfl (lv_at hl 0 rfl) ?_
  refine lv_ishr hx hb dX1_cutBits_24 ?_
  refine lv_fixi (y := 0) (by decide) ?_
  refine lv_iconst (v := 1) hx hb dX1_cutBits_25 (by decide) ?_
  refine lv_iand hx hb dX1_cutBits_26 ?_
  refine lv_fixi (y := 0) (by decide) ?_
  refine lv_iconst (v := 1) hx hb dX1_cutBits_27 (by decide) ?_
  refine lv_icmp_ne (tgt := 55) hx hb dX1_cutBits_28 (by decide) (fun _ => ?_) (fun h9 => absurd h9 (by decide))
  refine lv_pc (q := 55) rfl ?_
  refine lv_iinc (v := 4) (lv' := [(3, .int 4), (2, .int 0), (1, .int 0), (0, .ref ph0)]) hx hb dX1_cutBits_55 hl (k := 0) rfl (by decide) (by decide) rfl (fun ls hl => ?_)
  refine lv_goto (tgt := 13) hx hb dX1_cutBits_58 (by decide) ?_
  refine lv_iload_n hx hb dX1_cutBits_13 rfl (lv_at hl 0 rfl) ?_
  refine lv_bipush (v := 12) hx hb dX1_cutBits_14 (by decide) ?_
  refine lv_icmp_ge (tgt := 61) hx hb dX1_cutBits_16 (by decide) (fun h9 => absurd h9 (by decide)) (fun _ => ?_)
  refine lv_aload_n hx hb dX1_cutBits_19 rfl (lv_at hl 3 rfl) ?_
  refine lv_pc (q := 20) rfl ?_
  refine uGet (ci := 1) (C := RX1) (T := TX1) (N := 7) (v := .int 0) B inlX1 hP 0 rfl rfl 5 rfl mfl_X1_18 rfl rfl dX1_cutBits_20 ?_
  refine lv_iload_n hx hb dX1_cutBits_23 rfl (lv_at hl 0 rfl) ?_
  refine lv_ishr hx hb dX1_cutBits_24 ?_
  refine lv_fixi (y := 0) (by decide) ?_
  refine lv_iconst (v := 1) hx hb dX1_cutBits_25 (by decide) ?_
  refine lv_iand hx hb dX1_cutBits_26 ?_
  refine lv_fixi (y := 0) (by decide) ?_
  refine lv_iconst (v := 1) hx hb dX1_cutBits_27 (by decide) ?_
  refine lv_pc (q := 28) rfl ?_
  refine lv_icmp_ne (tgt := 55) hx hb dX1_cutBits_28 (by decide) (fun _ => ?_) (fun h9 => absurd h9 (by decide))
  refine lv_iinc (v := 5) (lv' := [(3, .int 5), (2, .int 0), (1, .int 0), (0, .ref ph0)]) hx hb dX1_cutBits_55 hl (k := 0) rfl (by decide) (by decide) rfl (fun ls hl => ?_)
  refine lv_goto (tgt := 13) hx hb dX1_cutBits_58 (by decide) ?_
  refine lv_iload_n hx hb dX1_cutBits_13 rfl (lv_at hl 0 rfl) ?_
  refine lv_bipush (v := 12) hx hb dX1_cutBits_14 (by decide) ?_
  refine lv_icmp_ge (tgt := 61) hx hb dX1_cutBits_16 (by decide) (fun h9 => absurd h9 (by decide)) (fun _ => ?_)
  refine lv_pc (q := 19) rfl ?_
  refine lv_aload_n hx hb dX1_cutBits_19 rfl (lv_at hl 3 rfl) ?_
  refine uGet (ci := 1) (C := RX1) (T := TX1) (N := 7) (v := .int 0) B inlX1 hP 0 rfl rfl 5 rfl mfl_X1_18 rfl rfl dX1_cutBits_20 ?_
  refine lv_iload_n hx hb dX1_cutBits_23 rfl (lv_at hl 0 rfl) ?_
  refine lv_ishr hx hb dX1_cutBits_24 ?_
  refine lv_fixi (y := 0) (by decide) ?_
  refine lv_iconst (v := 1) hx hb dX1_cutBits_25 (by decide) ?_
  refine lv_iand hx hb dX1_cutBits_26 ?_
  refine lv_fixi (y := 0) (by decide) ?_
  refine lv_pc (q := 27) rfl ?_
  refine lv_iconst (v := 1) hx hb dX1_cutBits_27 (by decide) ?_
  refine lv_icmp_ne (tgt := 55) hx hb dX1_cutBits_28 (by decide) (fun _ => ?_) (fun h9 => absurd h9 (by decide))
  refine lv_iinc (v := 6) (lv' := [(3, .int 6), (2, .int 0), (1, .int 0), (0, .ref ph0)]) hx hb dX1_cutBits_55 hl (k := 0) rfl (by decide) (by decide) rfl (fun ls hl => ?_)
  refine lv_goto (tgt := 13) hx hb dX1_cutBits_58 (by decide) ?_
  refine lv_iload_n hx hb dX1_cutBits_13 rfl (lv_at hl 0 rfl) ?_
  refine lv_bipush (v := 12) hx hb dX1_cutBits_14 (by decide) ?_
  refine lv_pc (q := 16) rfl ?_
  refine lv_icmp_ge (tgt := 61) hx hb dX1_cutBits_16 (by decide) (fun h9 => absurd h9 (by decide)) (fun _ => ?_)
  refine lv_aload_n hx hb dX1_cutBits_19 rfl (lv_at hl 3 rfl) ?_
  refine uGet (ci := 1) (C := RX1) (T := TX1) (N := 7) (v := .int 0) B inlX1 hP 0 rfl rfl 5 rfl mfl_X1_18 rfl rfl dX1_cutBits_20 ?_
  refine lv_iload_n hx hb dX1_cutBits_23 rfl (lv_at hl 0 rfl) ?_
  refine lv_ishr hx hb dX1_cutBits_24 ?_
  refine lv_fixi (y := 0) (by decide) ?_
  refine lv_iconst (v := 1) hx hb dX1_cutBits_25 (by decide) ?_
  refine lv_pc (q := 26) rfl ?_
  refine lv_iand hx hb dX1_cutBits_26 ?_
  refine lv_fixi (y := 0) (by decide) ?_
  refine lv_iconst (v := 1) hx hb dX1_cutBits_27 (by decide) ?_
  refine lv_icmp_ne (tgt := 55) hx hb dX1_cutBits_28 (by decide) (fun _ => ?_) (fun h9 => absurd h9 (by decide))
  refine lv_iinc (v := 7) (lv' := [(3, .int 7), (2, .int 0), (1, .int 0), (0, .ref ph0)]) hx hb dX1_cutBits_55 hl (k := 0) rfl (by decide) (by decide) rfl (fun ls hl => ?_)
  refine lv_goto (tgt := 13) hx hb dX1_cutBits_58 (by decide) ?_
  refine lv_iload_n hx hb dX1_cutBits_13 rfl (lv_at hl 0 rfl) ?_
  refine lv_pc (q := 14) rfl ?_
  refine lv_bipush (v := 12) hx hb dX1_cutBits_14 (by decide) ?_
  refine lv_icmp_ge (tgt := 61) hx hb dX1_cutBits_16 (by decide) (fun h9 => absurd h9 (by decide)) (fun _ => ?_)
  refine lv_aload_n hx hb dX1_cutBits_19 rfl (lv_at hl 3 rfl) ?_
  refine uGet (ci := 1) (C := RX1) (T := TX1) (N := 7) (v := .int 0) B inlX1 hP 0 rfl rfl 5 rfl mfl_X1_18 rfl rfl dX1_cutBits_20 ?_
  refine lv_iload_n hx hb dX1_cutBits_23 rfl (lv_at hl 0 rfl) ?_
  refine lv_ishr hx hb dX1_cutBits_24 ?_
  refine lv_fixi (y := 0) (by decide) ?_
  refine lv_pc (q := 25) rfl ?_
  refine lv_iconst (v := 1) hx hb dX1_cutBits_25 (by decide) ?_
  refine lv_iand hx hb dX1_cutBits_26 ?_
  refine lv_fixi (y := 0) (by decide) ?_
  refine lv_iconst (v := 1) hx hb dX1_cutBits_27 (by decide) ?_
  refine lv_icmp_ne (tgt := 55) hx hb dX1_cutBits_28 (by decide) (fun _ => ?_) (fun h9 => absurd h9 (by decide))
  refine lv_iinc (v := 8) (lv' := [(3, .int 8), (2, .int 0), (1, .int 0), (0, .ref ph0)]) hx hb dX1_cutBits_55 hl (k := 0) rfl (by decide) (by decide) rfl (fun ls hl => ?_)
  refine lv_goto (tgt := 13) hx hb dX1_cutBits_58 (by decide) ?_
  refine lv_pc (q := 13) rfl ?_
  refine lv_iload_n hx hb dX1_cutBits_13 rfl (lv_at hl 0 rfl) ?_
  refine lv_bipush (v := 12) hx hb dX1_cutBits_14 (by decide) ?_
  refine lv_icmp_ge (tgt := 61) hx hb dX1_cutBits_16 (by decide) (fun h9 => absurd h9 (by decide)) (fun _ => ?_)
  refine lv_aload_n hx hb dX1_cutBits_19 rfl (lv_at hl 3 rfl) ?_
  refine uGet (ci := 1) (C := RX1) (T := TX1) (N := 7) (v := .int 0) B inlX1 hP 0 rfl rfl 5 rfl mfl_X1_18 rfl rfl dX1_cutBits_20 ?_
  refine lv_iload_n hx hb dX1_cutBits_23 rfl (lv_at hl 0 rfl) ?_
  refine lv_pc (q := 24) rfl ?_
  refine lv_ishr hx hb dX1_cutBits_24 ?_
  refine lv_fixi (y := 0) (by decide) ?_
  refine lv_iconst (v := 1) hx hb dX1_cutBits_25 (by decide) ?_
  refine lv_iand hx hb dX1_cutBits_26 ?_
  refine lv_fixi (y := 0) (by decide) ?_
  refine lv_iconst (v := 1) hx hb dX1_cutBits_27 (by decide) ?_
  refine lv_icmp_ne (tgt := 55) hx hb dX1_cutBits_28 (by decide) (fun _ => ?_) (fun h9 => absurd h9 (by decide))
  refine lv_iinc (v := 9) (lv' := [(3, .int 9), (2, .int 0), (1, .int 0), (0, .ref ph0)]) hx hb dX1_cutBits_55 hl (k := 0) rfl (by decide) (by decide) rfl (fun ls hl => ?_)
  refine lv_pc (q := 58) rfl ?_
  refine lv_goto (tgt := 13) hx hb dX1_cutBits_58 (by decide) ?_
  refine lv_iload_n hx hb dX1_cutBits_13 rfl (lv_at hl 0 rfl) ?_
  refine lv_bipush (v := 12) hx hb dX1_cutBits_14 (by decide) ?_
  refine lv_icmp_ge (tgt := 61) hx hb dX1_cutBits_16 (by decide) (fun h9 => absurd h9 (by decide)) (fun _ => ?_)
  refine lv_aload_n hx hb dX1_cutBits_19 rfl (lv_at hl 3 rfl) ?_
  refine uGet (ci := 1) (C := RX1) (T := TX1) (N := 7) (v := .int 0) B inlX1 hP 0 rfl rfl 5 rfl mfl_X1_18 rfl rfl dX1_cutBits_20 ?_
  refine lv_pc (q := 23) rfl ?_
  refine lv_iload_n hx hb dX1_cutBits_23 rfl (lv_at hl 0 rfl) ?_
  refine lv_ishr hx hb dX1_cutBits_24 ?_
  refine lv_fixi (y := 0) (by decide) ?_
  refine lv_iconst (v := 1) hx hb dX1_cutBits_25 (by decide) ?_
  refine lv_iand hx hb dX1_cutBits_26 ?_
  refine lv_fixi (y := 0) (by decide) ?_
  refine lv_iconst (v := 1) hx hb dX1_cutBits_27 (by decide) ?_
  refine lv_icmp_ne (tgt := 55) hx hb dX1_cutBits_28 (by decide) (fun _ => ?_) (fun h9 => absurd h9 (by decide))
  refine lv_pc (q := 55) rfl ?_
  refine lv_iinc (v := 10) (lv' := [(3, .int 10), (2, .int 0), (1, .int 0), (0, .ref ph0)]) hx hb dX1_cutBits_55 hl (k := 0) rfl (by decide) (by decide) rfl (fun ls hl => ?_)
  refine lv_goto (tgt := 13) hx hb dX1_cutBits_58 (by decide) ?_
  refine lv_iload_n hx hb dX1_cutBits_13 rfl (lv_at hl 0 rfl) ?_
  refine lv_bipush (v := 12) hx hb dX1_cutBits_14 (by decide) ?_
  refine lv_icmp_ge (tgt := 61) hx hb dX1_cutBits_16 (by decide) (fun h9 => absurd h9 (by decide)) (fun _ => ?_)
  refine lv_aload_n hx hb dX1_cutBits_19 rfl (lv_at hl 3 rfl) ?_
  refine lv_pc (q := 20) rfl ?_
  refine uGet (ci := 1) (C := RX1) (T := TX1) (N := 7) (v := .int 0) B inlX1 hP 0 rfl rfl 5 rfl mfl_X1_18 rfl rfl dX1_cutBits_20 ?_
  refine lv_iload_n hx hb dX1_cutBits_23 rfl (lv_at hl 0 rfl) ?_
  refine lv_ishr hx hb dX1_cutBits_24 ?_
  refine lv_fixi (y := 0) (by decide) ?_
  refine lv_iconst (v := 1) hx hb dX1_cutBits_25 (by decide) ?_
  refine lv_iand hx hb dX1_cutBits_26 ?_
  refine lv_fixi (y := 0) (by decide) ?_
  refine lv_iconst (v := 1) hx hb dX1_cutBits_27 (by decide) ?_
  refine lv_pc (q := 28) rfl ?_
  refine lv_icmp_ne (tgt := 55) hx hb dX1_cutBits_28 (by decide) (fun _ => ?_) (fun h9 => absurd h9 (by decide))
  refine lv_iinc (v := 11) (lv' := [(3, .int 11), (2, .int 0), (1, .int 0), (0, .ref ph0)]) hx hb dX1_cutBits_55 hl (k := 0) rfl (by decide) (by decide) rfl (fun ls hl => ?_)
  refine lv_goto (tgt := 13) hx hb dX1_cutBits_58 (by decide) ?_
  refine lv_iload_n hx hb dX1_cutBits_13 rfl (lv_at hl 0 rfl) ?_
  refine lv_bipush (v := 12) hx hb dX1_cutBits_14 (by decide) ?_
  refine lv_icmp_ge (tgt := 61) hx hb dX1_cutBits_16 (by decide) (fun h9 => absurd h9 (by decide)) (fun _ => ?_)
  refine lv_pc (q := 19) rfl ?_
  refine lv_aload_n hx hb dX1_cutBits_19 rfl (lv_at hl 3 rfl) ?_
  refine uGet (ci := 1) (C := RX1) (T := TX1) (N := 7) (v := .int 0) B inlX1 hP 0 rfl rfl 5 rfl mfl_X1_18 rfl rfl dX1_cutBits_20 ?_
  refine lv_iload_n hx hb dX1_cutBits_23 rfl (lv_at hl 0 rfl) ?_
  refine lv_ishr hx hb dX1_cutBits_24 ?_
  refine lv_fixi (y := 0) (by decide) ?_
  refine lv_iconst (v := 1) hx hb dX1_cutBits_25 (by decide) ?_
  refine lv_iand hx hb dX1_cutBits_26 ?_
  refine lv_fixi (y := 0) (by decide) ?_
  refine lv_pc (q := 27) rfl ?_
  refine lv_iconst (v := 1) hx hb dX1_cutBits_27 (by decide) ?_
  refine lv_icmp_ne (tgt := 55) hx hb dX1_cutBits_28 (by decide) (fun _ => ?_) (fun h9 => absurd h9 (by decide))
  refine lv_iinc (v := 12) (lv' := [(3, .int 12), (2, .int 0), (1, .int 0), (0, .ref ph0)]) hx hb dX1_cutBits_55 hl (k := 0) rfl (by decide) (by decide) rfl (fun ls hl => ?_)
  refine lv_goto (tgt := 13) hx hb dX1_cutBits_58 (by decide) ?_
  refine lv_iload_n hx hb dX1_cutBits_13 rfl (lv_at hl 0 rfl) ?_
  refine lv_bipush (v := 12) hx hb dX1_cutBits_14 (by decide) ?_
  refine lv_pc (q := 16) rfl ?_
  refine lv_icmp_ge (tgt := 61) hx hb dX1_cutBits_16 (by decide) (fun _ => ?_) (fun h9 => absurd (by decide) h9)
  refine lv_iload_n hx hb dX1_cutBits_61 rfl (lv_at hl 1 rfl) ?_
  exact uRi () B rfl (uSub hP [0] rfl) (hD.sub [0] rfl rfl) hS dX1_cutBits_62
def qkX11_cuts_106 (ph0 : Nat) (ph1 : Nat) (ph2 : Nat) (ph3 : Nat) (ph4 : Nat) (ph5 : Nat) (ph6 : Nat) (ph7 : Nat) (pg8 : Nat) (pg9 : Nat) (pg10 : Nat) (pg11 : Nat) (pg12 : Nat) (pg13 : Nat) (pg14 : Nat) (pg15 : Nat) (pg16 : Nat) (pg17 : Nat) (pg18 : Nat) (pg19 : Nat) (pf20 : Nat → Int32) (pf21 : Nat → Int32) (pg22 : Nat) (pg23 : Nat) (pg24 : Nat) (pg25 : Nat) (pg26 : Nat) (pg27 : Nat) (pg28 : Nat) (pg29 : Nat) (pf30 : Nat → Int32) (pf31 : Nat → Int32) (px32 : Int32) (px33 : Int32) (px34 : Int32) (px35 : Int32) : Int32 → (Unit) → Prop := (fun (r : Int32) (u : Unit) => (r = (-1) ∧ (((((px32 < 0) ∨ (¬ px32 < 0 ∧ 12 ≤ px32) ∨ (¬ px32 < 0 ∧ ¬ 12 ≤ px32 ∧ px33 < 0) ∨ (¬ px32 < 0 ∧ ¬ 12 ≤ px32 ∧ ¬ px33 < 0 ∧ 2 ≤ px33))) ∨ (¬ px32 < 0 ∧ ¬ 12 ≤ px32 ∧ ¬ px33 < 0 ∧ ¬ 2 ≤ px33 ∧ ((px34 < 0) ∨ (¬ px34 < 0 ∧ 500 < px34))) ∨ (¬ px32 < 0 ∧ ¬ 12 ≤ px32 ∧ ¬ px33 < 0 ∧ ¬ 2 ≤ px33 ∧ ¬ px34 < 0 ∧ ¬ 500 < px34 ∧ ¬ px35 = 1 ∧ ¬ px35 = 2)))) ∨ (r = 0 ∧ ((((¬ px32 < 0 ∧ ¬ 12 ≤ px32 ∧ ¬ px33 < 0 ∧ ¬ 2 ≤ px33 ∧ ¬ px34 < 0 ∧ ¬ 500 < px34 ∧ px35 = 1) ∨ (¬ px32 < 0 ∧ ¬ 12 ≤ px32 ∧ ¬ px33 < 0 ∧ ¬ 2 ≤ px33 ∧ ¬ px34 < 0 ∧ ¬ 500 < px34 ∧ ¬ px35 = 1 ∧ px35 = 2))) ∨ (((¬ px32 < 0 ∧ ¬ 12 ≤ px32 ∧ ¬ px33 < 0 ∧ ¬ 2 ≤ px33 ∧ ¬ px34 < 0 ∧ ¬ 500 < px34 ∧ px35 = 1) ∨ (¬ px32 < 0 ∧ ¬ 12 ≤ px32 ∧ ¬ px33 < 0 ∧ ¬ 2 ≤ px33 ∧ ¬ px34 < 0 ∧ ¬ 500 < px34 ∧ ¬ px35 = 1 ∧ px35 = 2))))))
def vkX11_cuts_106 (K : Nat → ClassId) (ph0 : Nat) (ph1 : Nat) (ph2 : Nat) (ph3 : Nat) (ph4 : Nat) (ph5 : Nat) (ph6 : Nat) (ph7 : Nat) (pg8 : Nat) (pg9 : Nat) (pg10 : Nat) (pg11 : Nat) (pg12 : Nat) (pg13 : Nat) (pg14 : Nat) (pg15 : Nat) (pg16 : Nat) (pg17 : Nat) (pg18 : Nat) (pg19 : Nat) (pf20 : Nat → Int32) (pf21 : Nat → Int32) (pg22 : Nat) (pg23 : Nat) (pg24 : Nat) (pg25 : Nat) (pg26 : Nat) (pg27 : Nat) (pg28 : Nat) (pg29 : Nat) (pf30 : Nat → Int32) (pf31 : Nat → Int32) (px32 : Int32) (px33 : Int32) (px34 : Int32) (px35 : Int32) : (Unit) → va_W := (fun (u : Unit) => [])
set_option maxHeartbeats 4000000 in
set_option maxRecDepth 100000 in
theorem kX11_cuts_106 (l : Launch) (D : va_G) (K : Nat → ClassId) (sz : Nat) (ph0 : Nat) (ph1 : Nat) (ph2 : Nat) (ph3 : Nat) (ph4 : Nat) (ph5 : Nat) (ph6 : Nat) (ph7 : Nat) (pg8 : Nat) (pg9 : Nat) (pg10 : Nat) (pg11 : Nat) (pg12 : Nat) (pg13 : Nat) (pg14 : Nat) (pg15 : Nat) (pg16 : Nat) (pg17 : Nat) (pg18 : Nat) (pg19 : Nat) (pf20 : Nat → Int32) (pf21 : Nat → Int32) (pg22 : Nat) (pg23 : Nat) (pg24 : Nat) (pg25 : Nat) (pg26 : Nat) (pg27 : Nat) (pg28 : Nat) (pg29 : Nat) (pf30 : Nat → Int32) (pf31 : Nat → Int32) (px32 : Int32) (px33 : Int32) (px34 : Int32) (px35 : Int32) : uMi l yX11_cuts cX11_cuts 5 (some .int) { frames := 6, cells := 0, slots := 0, locals := 134 } [.ref ph0, .int px32, .int px33, .int px34, .int px35] D K [(ph0, .inr (11, [.ref pg8, .ref ph5, .ref pg9, .ref ph2, .ref ph1, .ref pg10, .ref pg11, .ref pg12, .ref pg13, .ref pg14, .ref pg15])), (ph1, .inr (1, [.ref ph5, .ref ph2, .ref pg9, .ref ph6, .ref ph7, .int 0, .int 0])), (ph2, .inr (3, [.ref pg16, .ref pg17, .ref pg18, .ref pg19, .ref ph3, .ref ph4, .int 0, .int (-1), .int 1, .int 0])), (ph3, .inl (K 0, 24, .inl pf20)), (ph4, .inl (K 0, 24, .inl pf21)), (ph5, .inr (4, [.ref pg8, .ref pg22, .ref pg23, .ref pg24, .ref pg25, .ref pg26, .ref pg27, .ref pg28, .ref pg29, .int 0])), (ph6, .inl (K 0, 12, .inl pf30)), (ph7, .inl (K 0, 12, .inl pf31))] sz (qkX11_cuts_106 ph0 ph1 ph2 ph3 ph4 ph5 ph6 ph7 pg8 pg9 pg10 pg11 pg12 pg13 pg14 pg15 pg16 pg17 pg18 pg19 pf20 pf21 pg22 pg23 pg24 pg25 pg26 pg27 pg28 pg29 pf30 pf31 px32 px33 px34 px35) (vkX11_cuts_106 K ph0 ph1 ph2 ph3 ph4 ph5 ph6 ph7 pg8 pg9 pg10 pg11 pg12 pg13 pg14 pg15 pg16 pg17 pg18 pg19 pf20 pf21 pg22 pg23 pg24 pg25 pg26 pg27 pg28 pg29 pf30 pf31 px32 px33 px34 px35) := by
  refine uMet (Qc := uQi D (qkX11_cuts_106 ph0 ph1 ph2 ph3 ph4 ph5 ph6 ph7 pg8 pg9 pg10 pg11 pg12 pg13 pg14 pg15 pg16 pg17 pg18 pg19 pf20 pf21 pg22 pg23 pg24 pg25 pg26 pg27 pg28 pg29 pf30 pf31 px32 px33 px34 px35) (vkX11_cuts_106 K ph0 ph1 ph2 ph3 ph4 ph5 ph6 ph7 pg8 pg9 pg10 pg11 pg12 pg13 pg14 pg15 pg16 pg17 pg18 pg19 pf20 pf21 pg22 pg23 pg24 pg25 pg26 pg27 pg28 pg29 pf30 pf31 px32 px33 px34 px35)) (ret := (some .int)) (by decide) (Nat.le_of_ble_eq_true rfl) ?_
  intro p e s m below meth c A ls hAe hsz B hP hD hS hl
  have hx := B.1
  have hb := B.2.1
  have hl : lv_has ls 5 [(0, .ref ph0), (1, .int px32), (2, .int px33), (3, .int px34), (4, .int px35)] := hl
  refine lv_iload_n hx hb dX11_cuts_0 rfl (lv_at hl 1 rfl) ?_
  refine lv_iload_n hx hb dX11_cuts_1 rfl (lv_at hl 2 rfl) ?_
  refine lv_iload_n hx hb dX11_cuts_2 rfl (lv_at hl 3 rfl) ?_
  refine lv_iload hx hb dX11_cuts_3 (lv_at hl 4 rfl) ?_
  refine uSi (As := [.int px32, .int px33, .int px34, .int px35]) (rest := []) (wr := [(ph0, .inr (11, [.ref pg8, .ref ph5, .ref pg9, .ref ph2, .ref ph1, .ref pg10, .ref pg11, .ref pg12, .ref pg13, .ref pg14, .ref pg15])), (ph1, .inr (1, [.ref ph5, .ref ph2, .ref pg9, .ref ph6, .ref ph7, .int 0, .int 0])), (ph2, .inr (3, [.ref pg16, .ref pg17, .ref pg18, .ref pg19, .ref ph3, .ref ph4, .int 0, .int (-1), .int 1, .int 0])), (ph3, .inl (K 0, 24, .inl pf20)), (ph4, .inl (K 0, 24, .inl pf21)), (ph5, .inr (4, [.ref pg8, .ref pg22, .ref pg23, .ref pg24, .ref pg25, .ref pg26, .ref pg27, .ref pg28, .ref pg29, .int 0])), (ph6, .inl (K 0, 12, .inl pf30)), (ph7, .inl (K 0, 12, .inl pf31))]) [] B hl.1 hP hD hS [] [0, 1, 2, 3, 4, 5, 6, 7] rfl rfl rfl (kX11_isLine_83 l D K _ px32 px33 px34 px35) wd_X11_isLine mml_X11_182 rfl rfl ⟨Nat.le_of_ble_eq_true rfl, Nat.le_of_ble_eq_true rfl⟩ (Nat.le_of_ble_eq_true rfl) ⟨Nat.le_of_ble_eq_true rfl, Nat.le_of_ble_eq_true rfl⟩ dX11_cuts_5 (fun r1 u H locs hw hP hD hS => ?_)
  try dsimp only at hw
  rcases hw with ⟨rfl, w2⟩ | ⟨rfl, w3⟩
  · have hP : va_P D vwCl [(ph0, .inr (11, [.ref pg8, .ref ph5, .ref pg9, .ref ph2, .ref ph1, .ref pg10, .ref pg11, .ref pg12, .ref pg13, .ref pg14, .ref pg15])), (ph1, .inr (1, [.ref ph5, .ref ph2, .ref pg9, .ref ph6, .ref ph7, .int 0, .int 0])), (ph2, .inr (3, [.ref pg16, .ref pg17, .ref pg18, .ref pg19, .ref ph3, .ref ph4, .int 0, .int (-1), .int 1, .int 0])), (ph3, .inl (K 0, 24, .inl pf20)), (ph4, .inl (K 0, 24, .inl pf21)), (ph5, .inr (4, [.ref pg8, .ref pg22, .ref pg23, .ref pg24, .ref pg25, .ref pg26, .ref pg27, .ref pg28, .ref pg29, .int 0])), (ph6, .inl (K 0, 12, .inl pf30)), (ph7, .inl (K 0, 12, .inl pf31))] H := hP
    have hD : va_D A [(ph0, .inr (11, [.ref pg8, .ref ph5, .ref pg9, .ref ph2, .ref ph1, .ref pg10, .ref pg11, .ref pg12, .ref pg13, .ref pg14, .ref pg15])), (ph1, .inr (1, [.ref ph5, .ref ph2, .ref pg9, .ref ph6, .ref ph7, .int 0, .int 0])), (ph2, .inr (3, [.ref pg16, .ref pg17, .ref pg18, .ref pg19, .ref ph3, .ref ph4, .int 0, .int (-1), .int 1, .int 0])), (ph3, .inl (K 0, 24, .inl pf20)), (ph4, .inl (K 0, 24, .inl pf21)), (ph5, .inr (4, [.ref pg8, .ref pg22, .ref pg23, .ref pg24, .ref pg25, .ref pg26, .ref pg27, .ref pg28, .ref pg29, .int 0])), (ph6, .inl (K 0, 12, .inl pf30)), (ph7, .inl (K 0, 12, .inl pf31))] := hD
    refine lv_pc (q := 8) rfl ?_
    refine lv_if_ne (tgt := 13) hx hb dX11_cuts_8 (by decide) (fun h9 => absurd (by decide) h9) (fun _ => ?_)
    refine lv_iconst (v := (-1)) hx hb dX11_cuts_11 (by decide) ?_
    exact uRi () B (Or.inl ⟨rfl, w2⟩) (uSub hP [] rfl) (hD.sub [] rfl rfl) hS dX11_cuts_12
  have hP : va_P D vwCl [(ph0, .inr (11, [.ref pg8, .ref ph5, .ref pg9, .ref ph2, .ref ph1, .ref pg10, .ref pg11, .ref pg12, .ref pg13, .ref pg14, .ref pg15])), (ph1, .inr (1, [.ref ph5, .ref ph2, .ref pg9, .ref ph6, .ref ph7, .int 0, .int 0])), (ph2, .inr (3, [.ref pg16, .ref pg17, .ref pg18, .ref pg19, .ref ph3, .ref ph4, .int 0, .int (-1), .int 1, .int 0])), (ph3, .inl (K 0, 24, .inl pf20)), (ph4, .inl (K 0, 24, .inl pf21)), (ph5, .inr (4, [.ref pg8, .ref pg22, .ref pg23, .ref pg24, .ref pg25, .ref pg26, .ref pg27, .ref pg28, .ref pg29, .int 0])), (ph6, .inl (K 0, 12, .inl pf30)), (ph7, .inl (K 0, 12, .inl pf31))] H := hP
  have hD : va_D A [(ph0, .inr (11, [.ref pg8, .ref ph5, .ref pg9, .ref ph2, .ref ph1, .ref pg10, .ref pg11, .ref pg12, .ref pg13, .ref pg14, .ref pg15])), (ph1, .inr (1, [.ref ph5, .ref ph2, .ref pg9, .ref ph6, .ref ph7, .int 0, .int 0])), (ph2, .inr (3, [.ref pg16, .ref pg17, .ref pg18, .ref pg19, .ref ph3, .ref ph4, .int 0, .int (-1), .int 1, .int 0])), (ph3, .inl (K 0, 24, .inl pf20)), (ph4, .inl (K 0, 24, .inl pf21)), (ph5, .inr (4, [.ref pg8, .ref pg22, .ref pg23, .ref pg24, .ref pg25, .ref pg26, .ref pg27, .ref pg28, .ref pg29, .int 0])), (ph6, .inl (K 0, 12, .inl pf30)), (ph7, .inl (K 0, 12, .inl pf31))] := hD
  refine lv_pc (q := 8) rfl ?_
  refine lv_if_ne (tgt := 13) hx hb dX11_cuts_8 (by decide) (fun _ => ?_) (fun h9 => absurd h9 (by decide))
  refine lv_aload_n hx hb dX11_cuts_13 rfl (lv_at hl 0 rfl) ?_
  refine uGet (ci := 11) (C := RX11) (T := TX11) (N := 11) (v := .ref ph1) B inlX11 hP 0 rfl rfl 4 rfl mfl_X11_46 rfl rfl dX11_cuts_14 ?_
  refine lv_iload_n hx hb dX11_cuts_17 rfl (lv_at hl 1 rfl) ?_
  refine lv_iload_n hx hb dX11_cuts_18 rfl (lv_at hl 2 rfl) ?_
  refine lv_iload_n hx hb dX11_cuts_19 rfl (lv_at hl 3 rfl) ?_
  refine lv_pc (q := 20) rfl ?_
  refine lv_iload hx hb dX11_cuts_20 (lv_at hl 4 rfl) ?_
  refine lv_iconst (v := 0) hx hb dX11_cuts_22 (by decide) ?_
  refine uVv (As := [.int px32, .int px33, .int px34, .int px35, .int 0]) (rest := []) (wr := [(ph0, .inr (11, [.ref pg8, .ref ph5, .ref pg9, .ref ph2, .ref ph1, .ref pg10, .ref pg11, .ref pg12, .ref pg13, .ref pg14, .ref pg15]))]) [(ph1, .inr (1, [.ref ph5, .ref ph2, .ref pg9, .ref ph6, .ref ph7, .int 0, .int 0])), (ph2, .inr (3, [.ref pg16, .ref pg17, .ref pg18, .ref pg19, .ref ph3, .ref ph4, .int 0, .int (-1), .int 1, .int 0])), (ph3, .inl (K 0, 24, .inl pf20)), (ph4, .inl (K 0, 24, .inl pf21)), (ph5, .inr (4, [.ref pg8, .ref pg22, .ref pg23, .ref pg24, .ref pg25, .ref pg26, .ref pg27, .ref pg28, .ref pg29, .int 0])), (ph6, .inl (K 0, 12, .inl pf30)), (ph7, .inl (K 0, 12, .inl pf31))] B hl.1 hP hD hS [1, 2, 3, 4, 5, 6, 7] [0] rfl rfl rfl (kX1_draw_97 l D K _ ph1 ph2 ph3 ph4 ph5 ph6 ph7 pg9 pg16 pg17 pg18 pg19 pf20 pf21 pg8 pg22 pg23 pg24 pg25 pg26 pg27 pg28 pg29 pf30 pf31 px32 px33 px34 px35) wd_X1_draw mml_X11_185 rfl rfl rfl rfl ⟨Nat.le_of_ble_eq_true rfl, Nat.le_of_ble_eq_true rfl⟩ (Nat.le_of_ble_eq_true rfl) ⟨Nat.le_of_ble_eq_true rfl, Nat.le_of_ble_eq_true rfl⟩ dX11_cuts_23 (fun u H locs hw hP hD hS => ?_)
  obtain ⟨u5, u6, u7, u8, u9⟩ := u
  try dsimp only at hw
  rcases hw with rfl | rfl
  · have hP : va_P D vwCl [(ph0, .inr (11, [.ref pg8, .ref ph5, .ref pg9, .ref ph2, .ref ph1, .ref pg10, .ref pg11, .ref pg12, .ref pg13, .ref pg14, .ref pg15])), (ph1, .inr (1, [.ref ph5, .ref ph2, .ref pg9, .ref ph6, .ref ph7, .int 0, .int 0])), (ph2, .inr (3, [.ref pg16, .ref pg17, .ref pg18, .ref pg19, .ref ph3, .ref ph4, .int 0, .int 0, .int 1, .int 0])), (ph3, .inl (K 0, 24, .inl u6)), (ph4, .inl (K 0, 24, .inl u7)), (ph5, .inr (4, [.ref pg8, .ref pg22, .ref pg23, .ref pg24, .ref pg25, .ref pg26, .ref pg27, .ref pg28, .ref pg29, .int 0])), (ph6, .inl (K 0, 12, .inl u8)), (ph7, .inl (K 0, 12, .inl u9))] H := hP
    have hD : va_D A [(ph0, .inr (11, [.ref pg8, .ref ph5, .ref pg9, .ref ph2, .ref ph1, .ref pg10, .ref pg11, .ref pg12, .ref pg13, .ref pg14, .ref pg15])), (ph1, .inr (1, [.ref ph5, .ref ph2, .ref pg9, .ref ph6, .ref ph7, .int 0, .int 0])), (ph2, .inr (3, [.ref pg16, .ref pg17, .ref pg18, .ref pg19, .ref ph3, .ref ph4, .int 0, .int 0, .int 1, .int 0])), (ph3, .inl (K 0, 24, .inl u6)), (ph4, .inl (K 0, 24, .inl u7)), (ph5, .inr (4, [.ref pg8, .ref pg22, .ref pg23, .ref pg24, .ref pg25, .ref pg26, .ref pg27, .ref pg28, .ref pg29, .int 0])), (ph6, .inl (K 0, 12, .inl u8)), (ph7, .inl (K 0, 12, .inl u9))] := hD
    refine lv_aload_n hx hb dX11_cuts_26 rfl (lv_at hl 0 rfl) ?_
    refine uGet (ci := 11) (C := RX11) (T := TX11) (N := 11) (v := .ref ph1) B inlX11 hP 0 rfl rfl 4 rfl mfl_X11_46 rfl rfl dX11_cuts_27 ?_
    refine uVi (As := []) (rest := []) (wr := [(ph0, .inr (11, [.ref pg8, .ref ph5, .ref pg9, .ref ph2, .ref ph1, .ref pg10, .ref pg11, .ref pg12, .ref pg13, .ref pg14, .ref pg15])), (ph2, .inr (3, [.ref pg16, .ref pg17, .ref pg18, .ref pg19, .ref ph3, .ref ph4, .int 0, .int 0, .int 1, .int 0])), (ph3, .inl (K 0, 24, .inl u6)), (ph4, .inl (K 0, 24, .inl u7)), (ph5, .inr (4, [.ref pg8, .ref pg22, .ref pg23, .ref pg24, .ref pg25, .ref pg26, .ref pg27, .ref pg28, .ref pg29, .int 0])), (ph6, .inl (K 0, 12, .inl u8)), (ph7, .inl (K 0, 12, .inl u9))]) [(ph1, .inr (1, [.ref ph5, .ref ph2, .ref pg9, .ref ph6, .ref ph7, .int 0, .int 0]))] B hl.1 hP hD hS [1] [0, 2, 3, 4, 5, 6, 7] rfl rfl rfl (kX1_cutBits_105 l D K _ ph1 ph5 ph2 pg9 ph6 ph7) wd_X1_cutBits mml_X11_195 rfl rfl rfl rfl ⟨Nat.le_of_ble_eq_true rfl, Nat.le_of_ble_eq_true rfl⟩ (Nat.le_of_ble_eq_true rfl) ⟨Nat.le_of_ble_eq_true rfl, Nat.le_of_ble_eq_true rfl⟩ dX11_cuts_30 (fun r10 u H locs hw hP hD hS => ?_)
    try dsimp only at hw
    rcases hw with rfl
    have hP : va_P D vwCl [(ph0, .inr (11, [.ref pg8, .ref ph5, .ref pg9, .ref ph2, .ref ph1, .ref pg10, .ref pg11, .ref pg12, .ref pg13, .ref pg14, .ref pg15])), (ph2, .inr (3, [.ref pg16, .ref pg17, .ref pg18, .ref pg19, .ref ph3, .ref ph4, .int 0, .int 0, .int 1, .int 0])), (ph3, .inl (K 0, 24, .inl u6)), (ph4, .inl (K 0, 24, .inl u7)), (ph5, .inr (4, [.ref pg8, .ref pg22, .ref pg23, .ref pg24, .ref pg25, .ref pg26, .ref pg27, .ref pg28, .ref pg29, .int 0])), (ph6, .inl (K 0, 12, .inl u8)), (ph7, .inl (K 0, 12, .inl u9)), (ph1, .inr (1, [.ref ph5, .ref ph2, .ref pg9, .ref ph6, .ref ph7, .int 0, .int 0]))] H := hP
    have hD : va_D A [(ph0, .inr (11, [.ref pg8, .ref ph5, .ref pg9, .ref ph2, .ref ph1, .ref pg10, .ref pg11, .ref pg12, .ref pg13, .ref pg14, .ref pg15])), (ph2, .inr (3, [.ref pg16, .ref pg17, .ref pg18, .ref pg19, .ref ph3, .ref ph4, .int 0, .int 0, .int 1, .int 0])), (ph3, .inl (K 0, 24, .inl u6)), (ph4, .inl (K 0, 24, .inl u7)), (ph5, .inr (4, [.ref pg8, .ref pg22, .ref pg23, .ref pg24, .ref pg25, .ref pg26, .ref pg27, .ref pg28, .ref pg29, .int 0])), (ph6, .inl (K 0, 12, .inl u8)), (ph7, .inl (K 0, 12, .inl u9)), (ph1, .inr (1, [.ref ph5, .ref ph2, .ref pg9, .ref ph6, .ref ph7, .int 0, .int 0]))] := hD
    refine lv_pc (q := 33) rfl ?_
    exact uRi () B (Or.inr ⟨rfl, Or.inl w3⟩) (uSub hP [] rfl) (hD.sub [] rfl rfl) hS dX11_cuts_33
  have hP : va_P D vwCl [(ph0, .inr (11, [.ref pg8, .ref ph5, .ref pg9, .ref ph2, .ref ph1, .ref pg10, .ref pg11, .ref pg12, .ref pg13, .ref pg14, .ref pg15])), (ph1, .inr (1, [.ref ph5, .ref ph2, .ref pg9, .ref ph6, .ref ph7, .int 0, .int 0])), (ph2, .inr (3, [.ref pg16, .ref pg17, .ref pg18, .ref pg19, .ref ph3, .ref ph4, .int 0, .int 0, .int 0, .int 0])), (ph3, .inl (K 0, 24, .inl u6)), (ph4, .inl (K 0, 24, .inl u7)), (ph5, .inr (4, [.ref pg8, .ref pg22, .ref pg23, .ref pg24, .ref pg25, .ref pg26, .ref pg27, .ref pg28, .ref pg29, .int 0])), (ph6, .inl (K 0, 12, .inl u8)), (ph7, .inl (K 0, 12, .inl u9))] H := hP
  have hD : va_D A [(ph0, .inr (11, [.ref pg8, .ref ph5, .ref pg9, .ref ph2, .ref ph1, .ref pg10, .ref pg11, .ref pg12, .ref pg13, .ref pg14, .ref pg15])), (ph1, .inr (1, [.ref ph5, .ref ph2, .ref pg9, .ref ph6, .ref ph7, .int 0, .int 0])), (ph2, .inr (3, [.ref pg16, .ref pg17, .ref pg18, .ref pg19, .ref ph3, .ref ph4, .int 0, .int 0, .int 0, .int 0])), (ph3, .inl (K 0, 24, .inl u6)), (ph4, .inl (K 0, 24, .inl u7)), (ph5, .inr (4, [.ref pg8, .ref pg22, .ref pg23, .ref pg24, .ref pg25, .ref pg26, .ref pg27, .ref pg28, .ref pg29, .int 0])), (ph6, .inl (K 0, 12, .inl u8)), (ph7, .inl (K 0, 12, .inl u9))] := hD
  refine lv_aload_n hx hb dX11_cuts_26 rfl (lv_at hl 0 rfl) ?_
  refine uGet (ci := 11) (C := RX11) (T := TX11) (N := 11) (v := .ref ph1) B inlX11 hP 0 rfl rfl 4 rfl mfl_X11_46 rfl rfl dX11_cuts_27 ?_
  refine uVi (As := []) (rest := []) (wr := [(ph0, .inr (11, [.ref pg8, .ref ph5, .ref pg9, .ref ph2, .ref ph1, .ref pg10, .ref pg11, .ref pg12, .ref pg13, .ref pg14, .ref pg15])), (ph2, .inr (3, [.ref pg16, .ref pg17, .ref pg18, .ref pg19, .ref ph3, .ref ph4, .int 0, .int 0, .int 0, .int 0])), (ph3, .inl (K 0, 24, .inl u6)), (ph4, .inl (K 0, 24, .inl u7)), (ph5, .inr (4, [.ref pg8, .ref pg22, .ref pg23, .ref pg24, .ref pg25, .ref pg26, .ref pg27, .ref pg28, .ref pg29, .int 0])), (ph6, .inl (K 0, 12, .inl u8)), (ph7, .inl (K 0, 12, .inl u9))]) [(ph1, .inr (1, [.ref ph5, .ref ph2, .ref pg9, .ref ph6, .ref ph7, .int 0, .int 0]))] B hl.1 hP hD hS [1] [0, 2, 3, 4, 5, 6, 7] rfl rfl rfl (kX1_cutBits_105 l D K _ ph1 ph5 ph2 pg9 ph6 ph7) wd_X1_cutBits mml_X11_195 rfl rfl rfl rfl ⟨Nat.le_of_ble_eq_true rfl, Nat.le_of_ble_eq_true rfl⟩ (Nat.le_of_ble_eq_true rfl) ⟨Nat.le_of_ble_eq_true rfl, Nat.le_of_ble_eq_true rfl⟩ dX11_cuts_30 (fun r11 u H locs hw hP hD hS => ?_)
  try dsimp only at hw
  rcases hw with rfl
  have hP : va_P D vwCl [(ph0, .inr (11, [.ref pg8, .ref ph5, .ref pg9, .ref ph2, .ref ph1, .ref pg10, .ref pg11, .ref pg12, .ref pg13, .ref pg14, .ref pg15])), (ph2, .inr (3, [.ref pg16, .ref pg17, .ref pg18, .ref pg19, .ref ph3, .ref ph4, .int 0, .int 0, .int 0, .int 0])), (ph3, .inl (K 0, 24, .inl u6)), (ph4, .inl (K 0, 24, .inl u7)), (ph5, .inr (4, [.ref pg8, .ref pg22, .ref pg23, .ref pg24, .ref pg25, .ref pg26, .ref pg27, .ref pg28, .ref pg29, .int 0])), (ph6, .inl (K 0, 12, .inl u8)), (ph7, .inl (K 0, 12, .inl u9)), (ph1, .inr (1, [.ref ph5, .ref ph2, .ref pg9, .ref ph6, .ref ph7, .int 0, .int 0]))] H := hP
  have hD : va_D A [(ph0, .inr (11, [.ref pg8, .ref ph5, .ref pg9, .ref ph2, .ref ph1, .ref pg10, .ref pg11, .ref pg12, .ref pg13, .ref pg14, .ref pg15])), (ph2, .inr (3, [.ref pg16, .ref pg17, .ref pg18, .ref pg19, .ref ph3, .ref ph4, .int 0, .int 0, .int 0, .int 0])), (ph3, .inl (K 0, 24, .inl u6)), (ph4, .inl (K 0, 24, .inl u7)), (ph5, .inr (4, [.ref pg8, .ref pg22, .ref pg23, .ref pg24, .ref pg25, .ref pg26, .ref pg27, .ref pg28, .ref pg29, .int 0])), (ph6, .inl (K 0, 12, .inl u8)), (ph7, .inl (K 0, 12, .inl u9)), (ph1, .inr (1, [.ref ph5, .ref ph2, .ref pg9, .ref ph6, .ref ph7, .int 0, .int 0]))] := hD
  refine lv_pc (q := 33) rfl ?_
  exact uRi () B (Or.inr ⟨rfl, Or.inr w3⟩) (uSub hP [] rfl) (hD.sub [] rfl rfl) hS dX11_cuts_33
def qkX12_cuts_107 (ph0 : Nat) (pg1 : Nat) (pg2 : Nat) (pg3 : Nat) (pg4 : Nat) (pg5 : Nat) (pg6 : Nat) (pg7 : Nat) (pg8 : Nat) (pg9 : Nat) (pg10 : Nat) (pg11 : Nat) (pg12 : Nat) (pg13 : Nat) (pg14 : Nat) (pg15 : Nat) (pg16 : Nat) (pg17 : Nat) (pg18 : Nat) (pg19 : Nat) (pg20 : Nat) (pg21 : Nat) (pg22 : Nat) (pg23 : Nat) (pg24 : Nat) (pg25 : Nat) (pg26 : Nat) (pg27 : Nat) (pg28 : Nat) (pg29 : Nat) (pg30 : Nat) (pg31 : Nat) (pg32 : Nat) (pg33 : Nat) (pg34 : Nat) (pg35 : Nat) (pg36 : Nat) (pg37 : Nat) (pg38 : Nat) (pg39 : Nat) (pg40 : Nat) (pg41 : Nat) (pg42 : Nat) (pg43 : Nat) (pg44 : Nat) (pg45 : Nat) (pg46 : Nat) (pg47 : Nat) (pg48 : Nat) (pg49 : Nat) (pg50 : Nat) (pg51 : Nat) (pg52 : Nat) (pg53 : Nat) (pg54 : Nat) (pg55 : Nat) (pg56 : Nat) (pg57 : Nat) (pg58 : Nat) (pg59 : Nat) (pg60 : Nat) (pg61 : Nat) (pg62 : Nat) (pg63 : Nat) (pg64 : Nat) (pg65 : Nat) (pg66 : Nat) (px67 : Int32) (px68 : Int32) (px69 : Int32) (px70 : Int32) : Int32 → (Unit) → Prop := (fun (r : Int32) (u : Unit) => (r = (-1) ∧ ((((((px67 < 0) ∨ (¬ px67 < 0 ∧ 11 < px67) ∨ (¬ px67 < 0 ∧ ¬ 11 < px67 ∧ px68 < 0) ∨ (¬ px67 < 0 ∧ ¬ 11 < px67 ∧ ¬ px68 < 0 ∧ 1 < px68))) ∨ (¬ px67 < 0 ∧ ¬ 11 < px67 ∧ ¬ px68 < 0 ∧ ¬ 1 < px68 ∧ px69 < 0) ∨ (¬ px67 < 0 ∧ ¬ 11 < px67 ∧ ¬ px68 < 0 ∧ ¬ 1 < px68 ∧ ¬ px69 < 0 ∧ 500 < px69))) ∨ (¬ px67 < 0 ∧ ¬ 11 < px67 ∧ ¬ px68 < 0 ∧ ¬ 1 < px68 ∧ ¬ px69 < 0 ∧ ¬ 500 < px69 ∧ ¬ px70 = 1 ∧ ¬ px70 = 2))) ∨ (r = 0 ∧ (¬ px67 < 0 ∧ ¬ 11 < px67 ∧ ¬ px68 < 0 ∧ ¬ 1 < px68 ∧ ¬ px69 < 0 ∧ ¬ 500 < px69 ∧ ((px70 = 1) ∨ (¬ px70 = 1 ∧ px70 = 2)))))
def vkX12_cuts_107 (K : Nat → ClassId) (ph0 : Nat) (pg1 : Nat) (pg2 : Nat) (pg3 : Nat) (pg4 : Nat) (pg5 : Nat) (pg6 : Nat) (pg7 : Nat) (pg8 : Nat) (pg9 : Nat) (pg10 : Nat) (pg11 : Nat) (pg12 : Nat) (pg13 : Nat) (pg14 : Nat) (pg15 : Nat) (pg16 : Nat) (pg17 : Nat) (pg18 : Nat) (pg19 : Nat) (pg20 : Nat) (pg21 : Nat) (pg22 : Nat) (pg23 : Nat) (pg24 : Nat) (pg25 : Nat) (pg26 : Nat) (pg27 : Nat) (pg28 : Nat) (pg29 : Nat) (pg30 : Nat) (pg31 : Nat) (pg32 : Nat) (pg33 : Nat) (pg34 : Nat) (pg35 : Nat) (pg36 : Nat) (pg37 : Nat) (pg38 : Nat) (pg39 : Nat) (pg40 : Nat) (pg41 : Nat) (pg42 : Nat) (pg43 : Nat) (pg44 : Nat) (pg45 : Nat) (pg46 : Nat) (pg47 : Nat) (pg48 : Nat) (pg49 : Nat) (pg50 : Nat) (pg51 : Nat) (pg52 : Nat) (pg53 : Nat) (pg54 : Nat) (pg55 : Nat) (pg56 : Nat) (pg57 : Nat) (pg58 : Nat) (pg59 : Nat) (pg60 : Nat) (pg61 : Nat) (pg62 : Nat) (pg63 : Nat) (pg64 : Nat) (pg65 : Nat) (pg66 : Nat) (px67 : Int32) (px68 : Int32) (px69 : Int32) (px70 : Int32) : (Unit) → va_W := (fun (u : Unit) => [])
set_option maxHeartbeats 4000000 in
set_option maxRecDepth 100000 in
theorem kX12_cuts_107 (l : Launch) (D : va_G) (K : Nat → ClassId) (sz : Nat) (ph0 : Nat) (pg1 : Nat) (pg2 : Nat) (pg3 : Nat) (pg4 : Nat) (pg5 : Nat) (pg6 : Nat) (pg7 : Nat) (pg8 : Nat) (pg9 : Nat) (pg10 : Nat) (pg11 : Nat) (pg12 : Nat) (pg13 : Nat) (pg14 : Nat) (pg15 : Nat) (pg16 : Nat) (pg17 : Nat) (pg18 : Nat) (pg19 : Nat) (pg20 : Nat) (pg21 : Nat) (pg22 : Nat) (pg23 : Nat) (pg24 : Nat) (pg25 : Nat) (pg26 : Nat) (pg27 : Nat) (pg28 : Nat) (pg29 : Nat) (pg30 : Nat) (pg31 : Nat) (pg32 : Nat) (pg33 : Nat) (pg34 : Nat) (pg35 : Nat) (pg36 : Nat) (pg37 : Nat) (pg38 : Nat) (pg39 : Nat) (pg40 : Nat) (pg41 : Nat) (pg42 : Nat) (pg43 : Nat) (pg44 : Nat) (pg45 : Nat) (pg46 : Nat) (pg47 : Nat) (pg48 : Nat) (pg49 : Nat) (pg50 : Nat) (pg51 : Nat) (pg52 : Nat) (pg53 : Nat) (pg54 : Nat) (pg55 : Nat) (pg56 : Nat) (pg57 : Nat) (pg58 : Nat) (pg59 : Nat) (pg60 : Nat) (pg61 : Nat) (pg62 : Nat) (pg63 : Nat) (pg64 : Nat) (pg65 : Nat) (pg66 : Nat) (px67 : Int32) (px68 : Int32) (px69 : Int32) (px70 : Int32) : uMi l yX12_cuts cX12_cuts 8 (some .int) { frames := 2, cells := 0, slots := 0, locals := 51 } [.ref ph0, .int px67, .int px68, .int px69, .int px70] D K [(ph0, .inr (12, [.int 0, .int 4, .int 4, .ref pg1, .ref pg2, .ref pg3, .ref pg4, .int 0, .ref pg5, .ref pg6, .int 0, .ref pg7, .ref pg8, .ref pg9, .ref pg10, .ref pg11, .ref pg12, .ref pg13, .int 0, .ref pg14, .ref pg15, .ref pg16, .ref pg17, .ref pg18, .ref pg19, .int 0, .ref pg20, .int 0, .int 0, .int 0, .ref pg21, .int 0, .int 0, .ref pg22, .int 0, .ref pg23, .ref pg24, .ref pg25, .ref pg26, .ref pg27, .ref pg28, .ref pg29, .ref pg30, .ref pg31, .ref pg32, .ref pg33, .ref pg34, .ref pg35, .ref pg36, .ref pg37, .ref pg38, .ref pg39, .ref pg40, .ref pg41, .ref pg42, .ref pg43, .ref pg44, .ref pg45, .int 0, .int 0, .int 0, .int 0, .int 0, .long 0, .int 0, .int 0, .int 0, .int 0, .int 0, .int (-1), .int 0, .ref pg46, .ref pg47, .ref pg48, .ref pg49, .ref pg50, .int 0, .int 0, .ref pg51, .ref pg52, .ref pg53, .ref pg54, .ref pg55, .ref pg56, .ref pg57, .ref pg58, .int 0, .int 0, .int 0, .int 0, .ref pg59, .ref pg60, .int 0, .ref pg61, .ref pg62, .ref pg63, .ref pg64, .ref pg65, .ref pg66]))] sz (qkX12_cuts_107 ph0 pg1 pg2 pg3 pg4 pg5 pg6 pg7 pg8 pg9 pg10 pg11 pg12 pg13 pg14 pg15 pg16 pg17 pg18 pg19 pg20 pg21 pg22 pg23 pg24 pg25 pg26 pg27 pg28 pg29 pg30 pg31 pg32 pg33 pg34 pg35 pg36 pg37 pg38 pg39 pg40 pg41 pg42 pg43 pg44 pg45 pg46 pg47 pg48 pg49 pg50 pg51 pg52 pg53 pg54 pg55 pg56 pg57 pg58 pg59 pg60 pg61 pg62 pg63 pg64 pg65 pg66 px67 px68 px69 px70) (vkX12_cuts_107 K ph0 pg1 pg2 pg3 pg4 pg5 pg6 pg7 pg8 pg9 pg10 pg11 pg12 pg13 pg14 pg15 pg16 pg17 pg18 pg19 pg20 pg21 pg22 pg23 pg24 pg25 pg26 pg27 pg28 pg29 pg30 pg31 pg32 pg33 pg34 pg35 pg36 pg37 pg38 pg39 pg40 pg41 pg42 pg43 pg44 pg45 pg46 pg47 pg48 pg49 pg50 pg51 pg52 pg53 pg54 pg55 pg56 pg57 pg58 pg59 pg60 pg61 pg62 pg63 pg64 pg65 pg66 px67 px68 px69 px70) := by
  refine uMet (Qc := uQi D (qkX12_cuts_107 ph0 pg1 pg2 pg3 pg4 pg5 pg6 pg7 pg8 pg9 pg10 pg11 pg12 pg13 pg14 pg15 pg16 pg17 pg18 pg19 pg20 pg21 pg22 pg23 pg24 pg25 pg26 pg27 pg28 pg29 pg30 pg31 pg32 pg33 pg34 pg35 pg36 pg37 pg38 pg39 pg40 pg41 pg42 pg43 pg44 pg45 pg46 pg47 pg48 pg49 pg50 pg51 pg52 pg53 pg54 pg55 pg56 pg57 pg58 pg59 pg60 pg61 pg62 pg63 pg64 pg65 pg66 px67 px68 px69 px70) (vkX12_cuts_107 K ph0 pg1 pg2 pg3 pg4 pg5 pg6 pg7 pg8 pg9 pg10 pg11 pg12 pg13 pg14 pg15 pg16 pg17 pg18 pg19 pg20 pg21 pg22 pg23 pg24 pg25 pg26 pg27 pg28 pg29 pg30 pg31 pg32 pg33 pg34 pg35 pg36 pg37 pg38 pg39 pg40 pg41 pg42 pg43 pg44 pg45 pg46 pg47 pg48 pg49 pg50 pg51 pg52 pg53 pg54 pg55 pg56 pg57 pg58 pg59 pg60 pg61 pg62 pg63 pg64 pg65 pg66 px67 px68 px69 px70)) (ret := (some .int)) (by decide) (Nat.le_of_ble_eq_true rfl) ?_
  intro p e s m below meth c A ls hAe hsz B hP hD hS hl
  have hx := B.1
  have hb := B.2.1
  have hl : lv_has ls 8 [(0, .ref ph0), (1, .int px67), (2, .int px68), (3, .int px69), (4, .int px70)] := hl
  refine lv_aload_n hx hb dX12_cuts_0 rfl (lv_at hl 0 rfl) ?_
  refine lv_iconst (v := 0) hx hb dX12_cuts_1 (by decide) ?_
  refine uPut (ci := 12) (C := RX12) (T := TX12) (N := 99) (ws' := [(ph0, .inr (12, [.int 0, .int 4, .int 4, .ref pg1, .ref pg2, .ref pg3, .ref pg4, .int 0, .ref pg5, .ref pg6, .int 0, .ref pg7, .ref pg8, .ref pg9, .ref pg10, .ref pg11, .ref pg12, .ref pg13, .int 0, .ref pg14, .ref pg15, .ref pg16, .ref pg17, .ref pg18, .ref pg19, .int 0, .ref pg20, .int 0, .int 0, .int 0, .ref pg21, .int 0, .int 0, .ref pg22, .int 0, .ref pg23, .ref pg24, .ref pg25, .ref pg26, .ref pg27, .ref pg28, .ref pg29, .ref pg30, .ref pg31, .ref pg32, .ref pg33, .ref pg34, .ref pg35, .ref pg36, .ref pg37, .ref pg38, .ref pg39, .ref pg40, .ref pg41, .ref pg42, .ref pg43, .ref pg44, .ref pg45, .int 0, .int 0, .int 0, .int 0, .int 0, .long 0, .int 0, .int 0, .int 0, .int 0, .int 0, .int (-1), .int 0, .ref pg46, .ref pg47, .ref pg48, .ref pg49, .ref pg50, .int 0, .int 0, .ref pg51, .ref pg52, .ref pg53, .ref pg54, .ref pg55, .ref pg56, .ref pg57, .ref pg58, .int 0, .int 0, .int 0, .int 0, .ref pg59, .ref pg60, .int 0, .ref pg61, .ref pg62, .ref pg63, .ref pg64, .ref pg65, .ref pg66]))]) B inlX12 tyX12_ok nmX12 hP hD hS 0 rfl rfl 0 rfl mfl_X12_224 rfl rfl rfl rfl rfl rfl dX12_cuts_2 (fun H locs hP hD hS => ?_)
  refine lv_iload_n hx hb dX12_cuts_5 rfl (lv_at hl 1 rfl) ?_
  refine lv_iload_n hx hb dX12_cuts_6 rfl (lv_at hl 2 rfl) ?_
  refine lv_pc (q := 7) rfl ?_
  refine lv_iload_n hx hb dX12_cuts_7 rfl (lv_at hl 3 rfl) ?_
  refine uSi (As := [.int px67, .int px68, .int px69]) (rest := []) (wr := [(ph0, .inr (12, [.int 0, .int 4, .int 4, .ref pg1, .ref pg2, .ref pg3, .ref pg4, .int 0, .ref pg5, .ref pg6, .int 0, .ref pg7, .ref pg8, .ref pg9, .ref pg10, .ref pg11, .ref pg12, .ref pg13, .int 0, .ref pg14, .ref pg15, .ref pg16, .ref pg17, .ref pg18, .ref pg19, .int 0, .ref pg20, .int 0, .int 0, .int 0, .ref pg21, .int 0, .int 0, .ref pg22, .int 0, .ref pg23, .ref pg24, .ref pg25, .ref pg26, .ref pg27, .ref pg28, .ref pg29, .ref pg30, .ref pg31, .ref pg32, .ref pg33, .ref pg34, .ref pg35, .ref pg36, .ref pg37, .ref pg38, .ref pg39, .ref pg40, .ref pg41, .ref pg42, .ref pg43, .ref pg44, .ref pg45, .int 0, .int 0, .int 0, .int 0, .int 0, .long 0, .int 0, .int 0, .int 0, .int 0, .int 0, .int (-1), .int 0, .ref pg46, .ref pg47, .ref pg48, .ref pg49, .ref pg50, .int 0, .int 0, .ref pg51, .ref pg52, .ref pg53, .ref pg54, .ref pg55, .ref pg56, .ref pg57, .ref pg58, .int 0, .int 0, .int 0, .int 0, .ref pg59, .ref pg60, .int 0, .ref pg61, .ref pg62, .ref pg63, .ref pg64, .ref pg65, .ref pg66]))]) [] B hl.1 hP hD hS [] [0] rfl rfl rfl (kX12_isAsked_100 l D K _ px67 px68 px69) wd_X12_isAsked mml_X12_347 rfl rfl ⟨Nat.le_of_ble_eq_true rfl, Nat.le_of_ble_eq_true rfl⟩ (Nat.le_of_ble_eq_true rfl) ⟨Nat.le_of_ble_eq_true rfl, Nat.le_of_ble_eq_true rfl⟩ dX12_cuts_8 (fun r1 u H locs hw hP hD hS => ?_)
  try dsimp only at hw
  rcases hw with ⟨rfl, w2⟩ | ⟨rfl, ⟨w3, w4, w5, w6, w7, w8⟩⟩
  · have hP : va_P D vwCl [(ph0, .inr (12, [.int 0, .int 4, .int 4, .ref pg1, .ref pg2, .ref pg3, .ref pg4, .int 0, .ref pg5, .ref pg6, .int 0, .ref pg7, .ref pg8, .ref pg9, .ref pg10, .ref pg11, .ref pg12, .ref pg13, .int 0, .ref pg14, .ref pg15, .ref pg16, .ref pg17, .ref pg18, .ref pg19, .int 0, .ref pg20, .int 0, .int 0, .int 0, .ref pg21, .int 0, .int 0, .ref pg22, .int 0, .ref pg23, .ref pg24, .ref pg25, .ref pg26, .ref pg27, .ref pg28, .ref pg29, .ref pg30, .ref pg31, .ref pg32, .ref pg33, .ref pg34, .ref pg35, .ref pg36, .ref pg37, .ref pg38, .ref pg39, .ref pg40, .ref pg41, .ref pg42, .ref pg43, .ref pg44, .ref pg45, .int 0, .int 0, .int 0, .int 0, .int 0, .long 0, .int 0, .int 0, .int 0, .int 0, .int 0, .int (-1), .int 0, .ref pg46, .ref pg47, .ref pg48, .ref pg49, .ref pg50, .int 0, .int 0, .ref pg51, .ref pg52, .ref pg53, .ref pg54, .ref pg55, .ref pg56, .ref pg57, .ref pg58, .int 0, .int 0, .int 0, .int 0, .ref pg59, .ref pg60, .int 0, .ref pg61, .ref pg62, .ref pg63, .ref pg64, .ref pg65, .ref pg66]))] H := hP
    have hD : va_D A [(ph0, .inr (12, [.int 0, .int 4, .int 4, .ref pg1, .ref pg2, .ref pg3, .ref pg4, .int 0, .ref pg5, .ref pg6, .int 0, .ref pg7, .ref pg8, .ref pg9, .ref pg10, .ref pg11, .ref pg12, .ref pg13, .int 0, .ref pg14, .ref pg15, .ref pg16, .ref pg17, .ref pg18, .ref pg19, .int 0, .ref pg20, .int 0, .int 0, .int 0, .ref pg21, .int 0, .int 0, .ref pg22, .int 0, .ref pg23, .ref pg24, .ref pg25, .ref pg26, .ref pg27, .ref pg28, .ref pg29, .ref pg30, .ref pg31, .ref pg32, .ref pg33, .ref pg34, .ref pg35, .ref pg36, .ref pg37, .ref pg38, .ref pg39, .ref pg40, .ref pg41, .ref pg42, .ref pg43, .ref pg44, .ref pg45, .int 0, .int 0, .int 0, .int 0, .int 0, .long 0, .int 0, .int 0, .int 0, .int 0, .int 0, .int (-1), .int 0, .ref pg46, .ref pg47, .ref pg48, .ref pg49, .ref pg50, .int 0, .int 0, .ref pg51, .ref pg52, .ref pg53, .ref pg54, .ref pg55, .ref pg56, .ref pg57, .ref pg58, .int 0, .int 0, .int 0, .int 0, .ref pg59, .ref pg60, .int 0, .ref pg61, .ref pg62, .ref pg63, .ref pg64, .ref pg65, .ref pg66]))] := hD
    refine lv_if_eq (tgt := 22) hx hb dX12_cuts_11 (by decide) (fun _ => ?_) (fun h9 => absurd (by decide) h9)
    refine lv_iconst (v := (-1)) hx hb dX12_cuts_22 (by decide) ?_
    exact uRi () B (Or.inl ⟨rfl, Or.inl w2⟩) (uSub hP [] rfl) (hD.sub [] rfl rfl) hS dX12_cuts_23
  have hP : va_P D vwCl [(ph0, .inr (12, [.int 0, .int 4, .int 4, .ref pg1, .ref pg2, .ref pg3, .ref pg4, .int 0, .ref pg5, .ref pg6, .int 0, .ref pg7, .ref pg8, .ref pg9, .ref pg10, .ref pg11, .ref pg12, .ref pg13, .int 0, .ref pg14, .ref pg15, .ref pg16, .ref pg17, .ref pg18, .ref pg19, .int 0, .ref pg20, .int 0, .int 0, .int 0, .ref pg21, .int 0, .int 0, .ref pg22, .int 0, .ref pg23, .ref pg24, .ref pg25, .ref pg26, .ref pg27, .ref pg28, .ref pg29, .ref pg30, .ref pg31, .ref pg32, .ref pg33, .ref pg34, .ref pg35, .ref pg36, .ref pg37, .ref pg38, .ref pg39, .ref pg40, .ref pg41, .ref pg42, .ref pg43, .ref pg44, .ref pg45, .int 0, .int 0, .int 0, .int 0, .int 0, .long 0, .int 0, .int 0, .int 0, .int 0, .int 0, .int (-1), .int 0, .ref pg46, .ref pg47, .ref pg48, .ref pg49, .ref pg50, .int 0, .int 0, .ref pg51, .ref pg52, .ref pg53, .ref pg54, .ref pg55, .ref pg56, .ref pg57, .ref pg58, .int 0, .int 0, .int 0, .int 0, .ref pg59, .ref pg60, .int 0, .ref pg61, .ref pg62, .ref pg63, .ref pg64, .ref pg65, .ref pg66]))] H := hP
  have hD : va_D A [(ph0, .inr (12, [.int 0, .int 4, .int 4, .ref pg1, .ref pg2, .ref pg3, .ref pg4, .int 0, .ref pg5, .ref pg6, .int 0, .ref pg7, .ref pg8, .ref pg9, .ref pg10, .ref pg11, .ref pg12, .ref pg13, .int 0, .ref pg14, .ref pg15, .ref pg16, .ref pg17, .ref pg18, .ref pg19, .int 0, .ref pg20, .int 0, .int 0, .int 0, .ref pg21, .int 0, .int 0, .ref pg22, .int 0, .ref pg23, .ref pg24, .ref pg25, .ref pg26, .ref pg27, .ref pg28, .ref pg29, .ref pg30, .ref pg31, .ref pg32, .ref pg33, .ref pg34, .ref pg35, .ref pg36, .ref pg37, .ref pg38, .ref pg39, .ref pg40, .ref pg41, .ref pg42, .ref pg43, .ref pg44, .ref pg45, .int 0, .int 0, .int 0, .int 0, .int 0, .long 0, .int 0, .int 0, .int 0, .int 0, .int 0, .int (-1), .int 0, .ref pg46, .ref pg47, .ref pg48, .ref pg49, .ref pg50, .int 0, .int 0, .ref pg51, .ref pg52, .ref pg53, .ref pg54, .ref pg55, .ref pg56, .ref pg57, .ref pg58, .int 0, .int 0, .int 0, .int 0, .ref pg59, .ref pg60, .int 0, .ref pg61, .ref pg62, .ref pg63, .ref pg64, .ref pg65, .ref pg66]))] := hD
  refine lv_if_eq (tgt := 22) hx hb dX12_cuts_11 (by decide) (fun h9 => absurd h9 (by decide)) (fun _ => ?_)
  refine lv_iload hx hb dX12_cuts_14 (lv_at hl 4 rfl) ?_
  refine uSi (As := [.int px70]) (rest := []) (wr := [(ph0, .inr (12, [.int 0, .int 4, .int 4, .ref pg1, .ref pg2, .ref pg3, .ref pg4, .int 0, .ref pg5, .ref pg6, .int 0, .ref pg7, .ref pg8, .ref pg9, .ref pg10, .ref pg11, .ref pg12, .ref pg13, .int 0, .ref pg14, .ref pg15, .ref pg16, .ref pg17, .ref pg18, .ref pg19, .int 0, .ref pg20, .int 0, .int 0, .int 0, .ref pg21, .int 0, .int 0, .ref pg22, .int 0, .ref pg23, .ref pg24, .ref pg25, .ref pg26, .ref pg27, .ref pg28, .ref pg29, .ref pg30, .ref pg31, .ref pg32, .ref pg33, .ref pg34, .ref pg35, .ref pg36, .ref pg37, .ref pg38, .ref pg39, .ref pg40, .ref pg41, .ref pg42, .ref pg43, .ref pg44, .ref pg45, .int 0, .int 0, .int 0, .int 0, .int 0, .long 0, .int 0, .int 0, .int 0, .int 0, .int 0, .int (-1), .int 0, .ref pg46, .ref pg47, .ref pg48, .ref pg49, .ref pg50, .int 0, .int 0, .ref pg51, .ref pg52, .ref pg53, .ref pg54, .ref pg55, .ref pg56, .ref pg57, .ref pg58, .int 0, .int 0, .int 0, .int 0, .ref pg59, .ref pg60, .int 0, .ref pg61, .ref pg62, .ref pg63, .ref pg64, .ref pg65, .ref pg66]))]) [] B hl.1 hP hD hS [] [0] rfl rfl rfl (kX12_isLevel_101 l D K _ px70) wd_X12_isLevel mml_X12_350 rfl rfl ⟨Nat.le_of_ble_eq_true rfl, Nat.le_of_ble_eq_true rfl⟩ (Nat.le_of_ble_eq_true rfl) ⟨Nat.le_of_ble_eq_true rfl, Nat.le_of_ble_eq_true rfl⟩ dX12_cuts_16 (fun r9 u H locs hw hP hD hS => ?_)
  try dsimp only at hw
  rcases hw with ⟨rfl, w10⟩ | ⟨rfl, ⟨w11, w12⟩⟩
  · have hP : va_P D vwCl [(ph0, .inr (12, [.int 0, .int 4, .int 4, .ref pg1, .ref pg2, .ref pg3, .ref pg4, .int 0, .ref pg5, .ref pg6, .int 0, .ref pg7, .ref pg8, .ref pg9, .ref pg10, .ref pg11, .ref pg12, .ref pg13, .int 0, .ref pg14, .ref pg15, .ref pg16, .ref pg17, .ref pg18, .ref pg19, .int 0, .ref pg20, .int 0, .int 0, .int 0, .ref pg21, .int 0, .int 0, .ref pg22, .int 0, .ref pg23, .ref pg24, .ref pg25, .ref pg26, .ref pg27, .ref pg28, .ref pg29, .ref pg30, .ref pg31, .ref pg32, .ref pg33, .ref pg34, .ref pg35, .ref pg36, .ref pg37, .ref pg38, .ref pg39, .ref pg40, .ref pg41, .ref pg42, .ref pg43, .ref pg44, .ref pg45, .int 0, .int 0, .int 0, .int 0, .int 0, .long 0, .int 0, .int 0, .int 0, .int 0, .int 0, .int (-1), .int 0, .ref pg46, .ref pg47, .ref pg48, .ref pg49, .ref pg50, .int 0, .int 0, .ref pg51, .ref pg52, .ref pg53, .ref pg54, .ref pg55, .ref pg56, .ref pg57, .ref pg58, .int 0, .int 0, .int 0, .int 0, .ref pg59, .ref pg60, .int 0, .ref pg61, .ref pg62, .ref pg63, .ref pg64, .ref pg65, .ref pg66]))] H := hP
    have hD : va_D A [(ph0, .inr (12, [.int 0, .int 4, .int 4, .ref pg1, .ref pg2, .ref pg3, .ref pg4, .int 0, .ref pg5, .ref pg6, .int 0, .ref pg7, .ref pg8, .ref pg9, .ref pg10, .ref pg11, .ref pg12, .ref pg13, .int 0, .ref pg14, .ref pg15, .ref pg16, .ref pg17, .ref pg18, .ref pg19, .int 0, .ref pg20, .int 0, .int 0, .int 0, .ref pg21, .int 0, .int 0, .ref pg22, .int 0, .ref pg23, .ref pg24, .ref pg25, .ref pg26, .ref pg27, .ref pg28, .ref pg29, .ref pg30, .ref pg31, .ref pg32, .ref pg33, .ref pg34, .ref pg35, .ref pg36, .ref pg37, .ref pg38, .ref pg39, .ref pg40, .ref pg41, .ref pg42, .ref pg43, .ref pg44, .ref pg45, .int 0, .int 0, .int 0, .int 0, .int 0, .long 0, .int 0, .int 0, .int 0, .int 0, .int 0, .int (-1), .int 0, .ref pg46, .ref pg47, .ref pg48, .ref pg49, .ref pg50, .int 0, .int 0, .ref pg51, .ref pg52, .ref pg53, .ref pg54, .ref pg55, .ref pg56, .ref pg57, .ref pg58, .int 0, .int 0, .int 0, .int 0, .ref pg59, .ref pg60, .int 0, .ref pg61, .ref pg62, .ref pg63, .ref pg64, .ref pg65, .ref pg66]))] := hD
    refine lv_if_ne (tgt := 24) hx hb dX12_cuts_19 (by decide) (fun _ => ?_) (fun h9 => absurd h9 (by decide))
    refine lv_pc (q := 24) rfl ?_
    refine lv_aload_n hx hb dX12_cuts_24 rfl (lv_at hl 0 rfl) ?_
    refine lv_iload_n hx hb dX12_cuts_25 rfl (lv_at hl 1 rfl) ?_
    refine lv_iload_n hx hb dX12_cuts_26 rfl (lv_at hl 2 rfl) ?_
    refine lv_iload_n hx hb dX12_cuts_27 rfl (lv_at hl 3 rfl) ?_
    refine lv_iload hx hb dX12_cuts_28 (lv_at hl 4 rfl) ?_
    refine uVv (As := [.int px67, .int px68, .int px69, .int px70]) (rest := []) (wr := []) [(ph0, .inr (12, [.int 0, .int 4, .int 4, .ref pg1, .ref pg2, .ref pg3, .ref pg4, .int 0, .ref pg5, .ref pg6, .int 0, .ref pg7, .ref pg8, .ref pg9, .ref pg10, .ref pg11, .ref pg12, .ref pg13, .int 0, .ref pg14, .ref pg15, .ref pg16, .ref pg17, .ref pg18, .ref pg19, .int 0, .ref pg20, .int 0, .int 0, .int 0, .ref pg21, .int 0, .int 0, .ref pg22, .int 0, .ref pg23, .ref pg24, .ref pg25, .ref pg26, .ref pg27, .ref pg28, .ref pg29, .ref pg30, .ref pg31, .ref pg32, .ref pg33, .ref pg34, .ref pg35, .ref pg36, .ref pg37, .ref pg38, .ref pg39, .ref pg40, .ref pg41, .ref pg42, .ref pg43, .ref pg44, .ref pg45, .int 0, .int 0, .int 0, .int 0, .int 0, .long 0, .int 0, .int 0, .int 0, .int 0, .int 0, .int (-1), .int 0, .ref pg46, .ref pg47, .ref pg48, .ref pg49, .ref pg50, .int 0, .int 0, .ref pg51, .ref pg52, .ref pg53, .ref pg54, .ref pg55, .ref pg56, .ref pg57, .ref pg58, .int 0, .int 0, .int 0, .int 0, .ref pg59, .ref pg60, .int 0, .ref pg61, .ref pg62, .ref pg63, .ref pg64, .ref pg65, .ref pg66]))] B hl.1 hP hD hS [0] [] rfl rfl rfl (kX12_lines_102 l D K _ ph0 pg1 pg2 pg3 pg4 pg5 pg6 pg7 pg8 pg9 pg10 pg11 pg12 pg13 pg14 pg15 pg16 pg17 pg18 pg19 pg20 pg21 pg22 pg23 pg24 pg25 pg26 pg27 pg28 pg29 pg30 pg31 pg32 pg33 pg34 pg35 pg36 pg37 pg38 pg39 pg40 pg41 pg42 pg43 pg44 pg45 pg46 pg47 pg48 pg49 pg50 pg51 pg52 pg53 pg54 pg55 pg56 pg57 pg58 pg59 pg60 pg61 pg62 pg63 pg64 pg65 pg66 px67 px68 px69 px70) wd_X12_lines mml_X12_353 rfl rfl rfl rfl ⟨Nat.le_of_ble_eq_true rfl, Nat.le_of_ble_eq_true rfl⟩ (Nat.le_of_ble_eq_true rfl) ⟨Nat.le_of_ble_eq_true rfl, Nat.le_of_ble_eq_true rfl⟩ dX12_cuts_30 (fun u H locs hw hP hD hS => ?_)
    try dsimp only at hw
    have hP : va_P D vwCl [(ph0, .inr (12, [.int 0, .int 4, .int 4, .ref pg1, .ref pg2, .ref pg3, .ref pg4, .int 0, .ref pg5, .ref pg6, .int 0, .ref pg7, .ref pg8, .ref pg9, .ref pg10, .ref pg11, .ref pg12, .ref pg13, .int 0, .ref pg14, .ref pg15, .ref pg16, .ref pg17, .ref pg18, .ref pg19, .int 0, .ref pg20, .int 0, .int 0, .int 0, .ref pg21, .int 0, .int 0, .ref pg22, .int 0, .ref pg23, .ref pg24, .ref pg25, .ref pg26, .ref pg27, .ref pg28, .ref pg29, .ref pg30, .ref pg31, .ref pg32, .ref pg33, .ref pg34, .ref pg35, .ref pg36, .ref pg37, .ref pg38, .ref pg39, .ref pg40, .ref pg41, .ref pg42, .ref pg43, .ref pg44, .ref pg45, .int 0, .int 0, .int 0, .int 0, .int 0, .long 0, .int 0, .int 0, .int 0, .int 0, .int 0, .int (-1), .int 0, .ref pg46, .ref pg47, .ref pg48, .ref pg49, .ref pg50, .int 0, .int 0, .ref pg51, .ref pg52, .ref pg53, .ref pg54, .ref pg55, .ref pg56, .ref pg57, .ref pg58, .int 0, .int 0, .int 0, .int 0, .ref pg59, .ref pg60, .int 0, .ref pg61, .ref pg62, .ref pg63, .ref pg64, .ref pg65, .ref pg66]))] H := hP
    have hD : va_D A [(ph0, .inr (12, [.int 0, .int 4, .int 4, .ref pg1, .ref pg2, .ref pg3, .ref pg4, .int 0, .ref pg5, .ref pg6, .int 0, .ref pg7, .ref pg8, .ref pg9, .ref pg10, .ref pg11, .ref pg12, .ref pg13, .int 0, .ref pg14, .ref pg15, .ref pg16, .ref pg17, .ref pg18, .ref pg19, .int 0, .ref pg20, .int 0, .int 0, .int 0, .ref pg21, .int 0, .int 0, .ref pg22, .int 0, .ref pg23, .ref pg24, .ref pg25, .ref pg26, .ref pg27, .ref pg28, .ref pg29, .ref pg30, .ref pg31, .ref pg32, .ref pg33, .ref pg34, .ref pg35, .ref pg36, .ref pg37, .ref pg38, .ref pg39, .ref pg40, .ref pg41, .ref pg42, .ref pg43, .ref pg44, .ref pg45, .int 0, .int 0, .int 0, .int 0, .int 0, .long 0, .int 0, .int 0, .int 0, .int 0, .int 0, .int (-1), .int 0, .ref pg46, .ref pg47, .ref pg48, .ref pg49, .ref pg50, .int 0, .int 0, .ref pg51, .ref pg52, .ref pg53, .ref pg54, .ref pg55, .ref pg56, .ref pg57, .ref pg58, .int 0, .int 0, .int 0, .int 0, .ref pg59, .ref pg60, .int 0, .ref pg61, .ref pg62, .ref pg63, .ref pg64, .ref pg65, .ref pg66]))] := hD
    refine lv_pc (q := 33) rfl ?_
    refine lv_aload_n hx hb dX12_cuts_33 rfl (lv_at hl 0 rfl) ?_
    refine lv_aload_n hx hb dX12_cuts_34 rfl (lv_at hl 0 rfl) ?_
    refine uGet (ci := 12) (C := RX12) (T := TX12) (N := 99) (v := .int 0) B inlX12 hP 0 rfl rfl 27 rfl mfl_X12_335 rfl rfl dX12_cuts_35 ?_
    refine uVi (As := [.int 0]) (rest := []) (wr := []) [(ph0, .inr (12, [.int 0, .int 4, .int 4, .ref pg1, .ref pg2, .ref pg3, .ref pg4, .int 0, .ref pg5, .ref pg6, .int 0, .ref pg7, .ref pg8, .ref pg9, .ref pg10, .ref pg11, .ref pg12, .ref pg13, .int 0, .ref pg14, .ref pg15, .ref pg16, .ref pg17, .ref pg18, .ref pg19, .int 0, .ref pg20, .int 0, .int 0, .int 0, .ref pg21, .int 0, .int 0, .ref pg22, .int 0, .ref pg23, .ref pg24, .ref pg25, .ref pg26, .ref pg27, .ref pg28, .ref pg29, .ref pg30, .ref pg31, .ref pg32, .ref pg33, .ref pg34, .ref pg35, .ref pg36, .ref pg37, .ref pg38, .ref pg39, .ref pg40, .ref pg41, .ref pg42, .ref pg43, .ref pg44, .ref pg45, .int 0, .int 0, .int 0, .int 0, .int 0, .long 0, .int 0, .int 0, .int 0, .int 0, .int 0, .int (-1), .int 0, .ref pg46, .ref pg47, .ref pg48, .ref pg49, .ref pg50, .int 0, .int 0, .ref pg51, .ref pg52, .ref pg53, .ref pg54, .ref pg55, .ref pg56, .ref pg57, .ref pg58, .int 0, .int 0, .int 0, .int 0, .ref pg59, .ref pg60, .int 0, .ref pg61, .ref pg62, .ref pg63, .ref pg64, .ref pg65, .ref pg66]))] B hl.1 hP hD hS [0] [] rfl rfl rfl (kX12_groupsOf_103 l D K _ ph0 pg1 pg2 pg3 pg4 pg5 pg6 pg7 pg8 pg9 pg10 pg11 pg12 pg13 pg14 pg15 pg16 pg17 pg18 pg19 pg20 pg21 pg22 pg23 pg24 pg25 pg26 pg27 pg28 pg29 pg30 pg31 pg32 pg33 pg34 pg35 pg36 pg37 pg38 pg39 pg40 pg41 pg42 pg43 pg44 pg45 pg46 pg47 pg48 pg49 pg50 pg51 pg52 pg53 pg54 pg55 pg56 pg57 pg58 pg59 pg60 pg61 pg62 pg63 pg64 pg65 pg66) wd_X12_groupsOf mml_X12_357 rfl rfl rfl rfl ⟨Nat.le_of_ble_eq_true rfl, Nat.le_of_ble_eq_true rfl⟩ (Nat.le_of_ble_eq_true rfl) ⟨Nat.le_of_ble_eq_true rfl, Nat.le_of_ble_eq_true rfl⟩ dX12_cuts_38 (fun r14 u H locs hw hP hD hS => ?_)
    try dsimp only at hw
    rcases hw with rfl
    have hP : va_P D vwCl [(ph0, .inr (12, [.int 0, .int 4, .int 4, .ref pg1, .ref pg2, .ref pg3, .ref pg4, .int 0, .ref pg5, .ref pg6, .int 0, .ref pg7, .ref pg8, .ref pg9, .ref pg10, .ref pg11, .ref pg12, .ref pg13, .int 0, .ref pg14, .ref pg15, .ref pg16, .ref pg17, .ref pg18, .ref pg19, .int 0, .ref pg20, .int 0, .int 0, .int 0, .ref pg21, .int 0, .int 0, .ref pg22, .int 0, .ref pg23, .ref pg24, .ref pg25, .ref pg26, .ref pg27, .ref pg28, .ref pg29, .ref pg30, .ref pg31, .ref pg32, .ref pg33, .ref pg34, .ref pg35, .ref pg36, .ref pg37, .ref pg38, .ref pg39, .ref pg40, .ref pg41, .ref pg42, .ref pg43, .ref pg44, .ref pg45, .int 0, .int 0, .int 0, .int 0, .int 0, .long 0, .int 0, .int 0, .int 0, .int 0, .int 0, .int (-1), .int 0, .ref pg46, .ref pg47, .ref pg48, .ref pg49, .ref pg50, .int 0, .int 0, .ref pg51, .ref pg52, .ref pg53, .ref pg54, .ref pg55, .ref pg56, .ref pg57, .ref pg58, .int 0, .int 0, .int 0, .int 0, .ref pg59, .ref pg60, .int 0, .ref pg61, .ref pg62, .ref pg63, .ref pg64, .ref pg65, .ref pg66]))] H := hP
    have hD : va_D A [(ph0, .inr (12, [.int 0, .int 4, .int 4, .ref pg1, .ref pg2, .ref pg3, .ref pg4, .int 0, .ref pg5, .ref pg6, .int 0, .ref pg7, .ref pg8, .ref pg9, .ref pg10, .ref pg11, .ref pg12, .ref pg13, .int 0, .ref pg14, .ref pg15, .ref pg16, .ref pg17, .ref pg18, .ref pg19, .int 0, .ref pg20, .int 0, .int 0, .int 0, .ref pg21, .int 0, .int 0, .ref pg22, .int 0, .ref pg23, .ref pg24, .ref pg25, .ref pg26, .ref pg27, .ref pg28, .ref pg29, .ref pg30, .ref pg31, .ref pg32, .ref pg33, .ref pg34, .ref pg35, .ref pg36, .ref pg37, .ref pg38, .ref pg39, .ref pg40, .ref pg41, .ref pg42, .ref pg43, .ref pg44, .ref pg45, .int 0, .int 0, .int 0, .int 0, .int 0, .long 0, .int 0, .int 0, .int 0, .int 0, .int 0, .int (-1), .int 0, .ref pg46, .ref pg47, .ref pg48, .ref pg49, .ref pg50, .int 0, .int 0, .ref pg51, .ref pg52, .ref pg53, .ref pg54, .ref pg55, .ref pg56, .ref pg57, .ref pg58, .int 0, .int 0, .int 0, .int 0, .ref pg59, .ref pg60, .int 0, .ref pg61, .ref pg62, .ref pg63, .ref pg64, .ref pg65, .ref pg66]))] := hD
    refine lv_istore (lv' := [(5, .int 0), (0, .ref ph0), (1, .int px67), (2, .int px68), (3, .int px69), (4, .int px70)]) hx hb dX12_cuts_41 hl (by decide) rfl (fun ls hl => ?_)
    refine lv_iconst (v := 0) hx hb dX12_cuts_43 (by decide) ?_
    refine lv_pc (q := 44) rfl ?_
    refine lv_istore (lv' := [(6, .int 0), (5, .int 0), (0, .ref ph0), (1, .int px67), (2, .int px68), (3, .int px69), (4, .int px70)]) hx hb dX12_cuts_44 hl (by decide) rfl (fun ls hl => ?_)
    refine lv_iconst (v := 0) hx hb dX12_cuts_46 (by decide) ?_
    refine lv_istore (lv' := [(7, .int 0), (6, .int 0), (5, .int 0), (0, .ref ph0), (1, .int px67), (2, .int px68), (3, .int px69), (4, .int px70)]) hx hb dX12_cuts_47 hl (by decide) rfl (fun ls hl => ?_)
    refine lv_iload hx hb dX12_cuts_49 (lv_at hl 0 rfl) ?_
    refine lv_aload_n hx hb dX12_cuts_51 rfl (lv_at hl 3 rfl) ?_
    refine uGet (ci := 12) (C := RX12) (T := TX12) (N := 99) (v := .int 0) B inlX12 hP 0 rfl rfl 10 rfl mfl_X12_227 rfl rfl dX12_cuts_52 ?_
    refine lv_pc (q := 55) rfl ?_
    refine lv_icmp_ge (tgt := 106) hx hb dX12_cuts_55 (by decide) (fun _ => ?_) (fun h9 => absurd (by decide) h9)
    refine lv_iload hx hb dX12_cuts_106 (lv_at hl 1 rfl) ?_
    exact uRi () B (Or.inr ⟨rfl, ⟨w3, w4, w5, w6, w7, w8, w10⟩⟩) (uSub hP [] rfl) (hD.sub [] rfl rfl) hS dX12_cuts_108
  have hP : va_P D vwCl [(ph0, .inr (12, [.int 0, .int 4, .int 4, .ref pg1, .ref pg2, .ref pg3, .ref pg4, .int 0, .ref pg5, .ref pg6, .int 0, .ref pg7, .ref pg8, .ref pg9, .ref pg10, .ref pg11, .ref pg12, .ref pg13, .int 0, .ref pg14, .ref pg15, .ref pg16, .ref pg17, .ref pg18, .ref pg19, .int 0, .ref pg20, .int 0, .int 0, .int 0, .ref pg21, .int 0, .int 0, .ref pg22, .int 0, .ref pg23, .ref pg24, .ref pg25, .ref pg26, .ref pg27, .ref pg28, .ref pg29, .ref pg30, .ref pg31, .ref pg32, .ref pg33, .ref pg34, .ref pg35, .ref pg36, .ref pg37, .ref pg38, .ref pg39, .ref pg40, .ref pg41, .ref pg42, .ref pg43, .ref pg44, .ref pg45, .int 0, .int 0, .int 0, .int 0, .int 0, .long 0, .int 0, .int 0, .int 0, .int 0, .int 0, .int (-1), .int 0, .ref pg46, .ref pg47, .ref pg48, .ref pg49, .ref pg50, .int 0, .int 0, .ref pg51, .ref pg52, .ref pg53, .ref pg54, .ref pg55, .ref pg56, .ref pg57, .ref pg58, .int 0, .int 0, .int 0, .int 0, .ref pg59, .ref pg60, .int 0, .ref pg61, .ref pg62, .ref pg63, .ref pg64, .ref pg65, .ref pg66]))] H := hP
  have hD : va_D A [(ph0, .inr (12, [.int 0, .int 4, .int 4, .ref pg1, .ref pg2, .ref pg3, .ref pg4, .int 0, .ref pg5, .ref pg6, .int 0, .ref pg7, .ref pg8, .ref pg9, .ref pg10, .ref pg11, .ref pg12, .ref pg13, .int 0, .ref pg14, .ref pg15, .ref pg16, .ref pg17, .ref pg18, .ref pg19, .int 0, .ref pg20, .int 0, .int 0, .int 0, .ref pg21, .int 0, .int 0, .ref pg22, .int 0, .ref pg23, .ref pg24, .ref pg25, .ref pg26, .ref pg27, .ref pg28, .ref pg29, .ref pg30, .ref pg31, .ref pg32, .ref pg33, .ref pg34, .ref pg35, .ref pg36, .ref pg37, .ref pg38, .ref pg39, .ref pg40, .ref pg41, .ref pg42, .ref pg43, .ref pg44, .ref pg45, .int 0, .int 0, .int 0, .int 0, .int 0, .long 0, .int 0, .int 0, .int 0, .int 0, .int 0, .int (-1), .int 0, .ref pg46, .ref pg47, .ref pg48, .ref pg49, .ref pg50, .int 0, .int 0, .ref pg51, .ref pg52, .ref pg53, .ref pg54, .ref pg55, .ref pg56, .ref pg57, .ref pg58, .int 0, .int 0, .int 0, .int 0, .ref pg59, .ref pg60, .int 0, .ref pg61, .ref pg62, .ref pg63, .ref pg64, .ref pg65, .ref pg66]))] := hD
  refine lv_if_ne (tgt := 24) hx hb dX12_cuts_19 (by decide) (fun h9 => absurd (by decide) h9) (fun _ => ?_)
  refine lv_pc (q := 22) rfl ?_
  refine lv_iconst (v := (-1)) hx hb dX12_cuts_22 (by decide) ?_
  exact uRi () B (Or.inl ⟨rfl, Or.inr ⟨w3, w4, w5, w6, w7, w8, w11, w12⟩⟩) (uSub hP [] rfl) (hD.sub [] rfl rfl) hS dX12_cuts_23
def qkX1_standingAs_108 (ph0 : Nat) (ph1 : Nat) (pg2 : Nat) (pg3 : Nat) (pg4 : Nat) (pg5 : Nat) (pg6 : Nat) (pg7 : Nat) (pg8 : Nat) (pg9 : Nat) (pg10 : Nat) (pg11 : Nat) (pg12 : Nat) (pg13 : Nat) (pg14 : Nat) (px15 : Int32) (px16 : Int32) : Int32 → (Unit) → Prop := (fun (r : Int32) (u : Unit) => r = 0)
def vkX1_standingAs_108 (K : Nat → ClassId) (ph0 : Nat) (ph1 : Nat) (pg2 : Nat) (pg3 : Nat) (pg4 : Nat) (pg5 : Nat) (pg6 : Nat) (pg7 : Nat) (pg8 : Nat) (pg9 : Nat) (pg10 : Nat) (pg11 : Nat) (pg12 : Nat) (pg13 : Nat) (pg14 : Nat) (px15 : Int32) (px16 : Int32) : (Unit) → va_W := (fun (u : Unit) => [(ph0, .inr (1, [.ref ph1, .ref pg2, .ref pg3, .ref pg4, .ref pg5, .int 0, .int 0])), (ph1, .inr (4, [.ref pg6, .ref pg7, .ref pg8, .ref pg9, .ref pg10, .ref pg11, .ref pg12, .ref pg13, .ref pg14, .int 0]))])
set_option maxHeartbeats 4000000 in
set_option maxRecDepth 100000 in
theorem kX1_standingAs_108 (l : Launch) (D : va_G) (K : Nat → ClassId) (sz : Nat) (ph0 : Nat) (ph1 : Nat) (pg2 : Nat) (pg3 : Nat) (pg4 : Nat) (pg5 : Nat) (pg6 : Nat) (pg7 : Nat) (pg8 : Nat) (pg9 : Nat) (pg10 : Nat) (pg11 : Nat) (pg12 : Nat) (pg13 : Nat) (pg14 : Nat) (px15 : Int32) (px16 : Int32) : uMi l yX1_standingAs cX1_standingAs 6 (some .int) { frames := 0, cells := 0, slots := 0, locals := 0 } [.ref ph0, .int 1, .int px15, .int px16] D K [(ph0, .inr (1, [.ref ph1, .ref pg2, .ref pg3, .ref pg4, .ref pg5, .int 0, .int 0])), (ph1, .inr (4, [.ref pg6, .ref pg7, .ref pg8, .ref pg9, .ref pg10, .ref pg11, .ref pg12, .ref pg13, .ref pg14, .int 0]))] sz (qkX1_standingAs_108 ph0 ph1 pg2 pg3 pg4 pg5 pg6 pg7 pg8 pg9 pg10 pg11 pg12 pg13 pg14 px15 px16) (vkX1_standingAs_108 K ph0 ph1 pg2 pg3 pg4 pg5 pg6 pg7 pg8 pg9 pg10 pg11 pg12 pg13 pg14 px15 px16) := by
  refine uMet (Qc := uQi D (qkX1_standingAs_108 ph0 ph1 pg2 pg3 pg4 pg5 pg6 pg7 pg8 pg9 pg10 pg11 pg12 pg13 pg14 px15 px16) (vkX1_standingAs_108 K ph0 ph1 pg2 pg3 pg4 pg5 pg6 pg7 pg8 pg9 pg10 pg11 pg12 pg13 pg14 px15 px16)) (ret := (some .int)) (by decide) (Nat.le_of_ble_eq_true rfl) ?_
  intro p e s m below meth c A ls hAe hsz B hP hD hS hl
  have hx := B.1
  have hb := B.2.1
  have hl : lv_has ls 6 [(0, .ref ph0), (1, .int 1), (2, .int px15), (3, .int px16)] := hl
  refine lv_iconst (v := 0) hx hb dX1_standingAs_0 (by decide) ?_
  refine lv_istore (lv' := [(4, .int 0), (0, .ref ph0), (1, .int 1), (2, .int px15), (3, .int px16)]) hx hb dX1_standingAs_1 hl (by decide) rfl (fun ls hl => ?_)
  refine lv_iconst (v := 0) hx hb dX1_standingAs_3 (by decide) ?_
  refine lv_istore (lv' := [(5, .int 0), (4, .int 0), (0, .ref ph0), (1, .int 1), (2, .int px15), (3, .int px16)]) hx hb dX1_standingAs_4 hl (by decide) rfl (fun ls hl => ?_)
  refine lv_iload hx hb dX1_standingAs_6 (lv_at hl 0 rfl) ?_
  refine lv_pc (q := 8) rfl ?_
  refine lv_aload_n hx hb dX1_standingAs_8 rfl (lv_at hl 2 rfl) ?_
  refine uGet (ci := 1) (C := RX1) (T := TX1) (N := 7) (v := .ref ph1) B inlX1 hP 0 rfl rfl 0 rfl mfl_X1_25 rfl rfl dX1_standingAs_9 ?_
  refine uGet (ci := 4) (C := RX4) (T := TX4) (N := 10) (v := .int 0) B inlX4 hP 1 rfl rfl 9 rfl mfl_X1_56 rfl rfl dX1_standingAs_12 ?_
  refine lv_icmp_ge (tgt := 61) hx hb dX1_standingAs_15 (by decide) (fun _ => ?_) (fun h9 => absurd (by decide) h9)
  refine lv_iload hx hb dX1_standingAs_61 (lv_at hl 1 rfl) ?_
  exact uRi () B rfl (uSub hP [0, 1] rfl) (hD.sub [0, 1] rfl rfl) hS dX1_standingAs_63
def qkX1_draw_109 (ph0 : Nat) (ph1 : Nat) (ph2 : Nat) (ph3 : Nat) (ph4 : Nat) (ph5 : Nat) (ph6 : Nat) (pg7 : Nat) (pg8 : Nat) (pg9 : Nat) (pg10 : Nat) (pg11 : Nat) (pf12 : Nat → Int32) (pf13 : Nat → Int32) (pg14 : Nat) (pg15 : Nat) (pg16 : Nat) (pg17 : Nat) (pg18 : Nat) (pg19 : Nat) (pg20 : Nat) (pg21 : Nat) (pg22 : Nat) (pf23 : Nat → Int32) (pf24 : Nat → Int32) (px25 : Int32) (px26 : Int32) (px27 : Int32) (px28 : Int32) : (Int32 × (Nat → Int32) × (Nat → Int32) × (Nat → Int32) × (Nat → Int32)) → Prop := (fun (u : Int32 × (Nat → Int32) × (Nat → Int32) × (Nat → Int32) × (Nat → Int32)) => (u.1 = 1) ∨ (u.1 = 0))
def vkX1_draw_109 (K : Nat → ClassId) (ph0 : Nat) (ph1 : Nat) (ph2 : Nat) (ph3 : Nat) (ph4 : Nat) (ph5 : Nat) (ph6 : Nat) (pg7 : Nat) (pg8 : Nat) (pg9 : Nat) (pg10 : Nat) (pg11 : Nat) (pf12 : Nat → Int32) (pf13 : Nat → Int32) (pg14 : Nat) (pg15 : Nat) (pg16 : Nat) (pg17 : Nat) (pg18 : Nat) (pg19 : Nat) (pg20 : Nat) (pg21 : Nat) (pg22 : Nat) (pf23 : Nat → Int32) (pf24 : Nat → Int32) (px25 : Int32) (px26 : Int32) (px27 : Int32) (px28 : Int32) : (Int32 × (Nat → Int32) × (Nat → Int32) × (Nat → Int32) × (Nat → Int32)) → va_W := (fun (u : Int32 × (Nat → Int32) × (Nat → Int32) × (Nat → Int32) × (Nat → Int32)) => [(ph0, .inr (1, [.ref ph4, .ref ph1, .ref pg7, .ref ph5, .ref ph6, .int 0, .int 0])), (ph1, .inr (3, [.ref pg8, .ref pg9, .ref pg10, .ref pg11, .ref ph2, .ref ph3, .int 0, .int 0, .int u.1, .int 0])), (ph2, .inl (K 0, 24, .inl (u.2.1))), (ph3, .inl (K 0, 24, .inl (u.2.2.1))), (ph4, .inr (4, [.ref pg14, .ref pg15, .ref pg16, .ref pg17, .ref pg18, .ref pg19, .ref pg20, .ref pg21, .ref pg22, .int 0])), (ph5, .inl (K 0, 12, .inl (u.2.2.2.1))), (ph6, .inl (K 0, 12, .inl (u.2.2.2.2)))])
set_option maxHeartbeats 4000000 in
set_option maxRecDepth 100000 in
theorem kX1_draw_109 (l : Launch) (D : va_G) (K : Nat → ClassId) (sz : Nat) (ph0 : Nat) (ph1 : Nat) (ph2 : Nat) (ph3 : Nat) (ph4 : Nat) (ph5 : Nat) (ph6 : Nat) (pg7 : Nat) (pg8 : Nat) (pg9 : Nat) (pg10 : Nat) (pg11 : Nat) (pf12 : Nat → Int32) (pf13 : Nat → Int32) (pg14 : Nat) (pg15 : Nat) (pg16 : Nat) (pg17 : Nat) (pg18 : Nat) (pg19 : Nat) (pg20 : Nat) (pg21 : Nat) (pg22 : Nat) (pf23 : Nat → Int32) (pf24 : Nat → Int32) (px25 : Int32) (px26 : Int32) (px27 : Int32) (px28 : Int32) : uMv l yX1_draw cX1_draw 9 { frames := 5, cells := 0, slots := 0, locals := 106 } [.ref ph0, .int px25, .int px26, .int px27, .int px28, .int 1] D K [(ph0, .inr (1, [.ref ph4, .ref ph1, .ref pg7, .ref ph5, .ref ph6, .int 0, .int 0])), (ph1, .inr (3, [.ref pg8, .ref pg9, .ref pg10, .ref pg11, .ref ph2, .ref ph3, .int 0, .int (-1), .int 1, .int 0])), (ph2, .inl (K 0, 24, .inl pf12)), (ph3, .inl (K 0, 24, .inl pf13)), (ph4, .inr (4, [.ref pg14, .ref pg15, .ref pg16, .ref pg17, .ref pg18, .ref pg19, .ref pg20, .ref pg21, .ref pg22, .int 0])), (ph5, .inl (K 0, 12, .inl pf23)), (ph6, .inl (K 0, 12, .inl pf24))] sz (qkX1_draw_109 ph0 ph1 ph2 ph3 ph4 ph5 ph6 pg7 pg8 pg9 pg10 pg11 pf12 pf13 pg14 pg15 pg16 pg17 pg18 pg19 pg20 pg21 pg22 pf23 pf24 px25 px26 px27 px28) (vkX1_draw_109 K ph0 ph1 ph2 ph3 ph4 ph5 ph6 pg7 pg8 pg9 pg10 pg11 pf12 pf13 pg14 pg15 pg16 pg17 pg18 pg19 pg20 pg21 pg22 pf23 pf24 px25 px26 px27 px28) := by
  refine uMet (Qc := uQv D (qkX1_draw_109 ph0 ph1 ph2 ph3 ph4 ph5 ph6 pg7 pg8 pg9 pg10 pg11 pf12 pf13 pg14 pg15 pg16 pg17 pg18 pg19 pg20 pg21 pg22 pf23 pf24 px25 px26 px27 px28) (vkX1_draw_109 K ph0 ph1 ph2 ph3 ph4 ph5 ph6 pg7 pg8 pg9 pg10 pg11 pf12 pf13 pg14 pg15 pg16 pg17 pg18 pg19 pg20 pg21 pg22 pf23 pf24 px25 px26 px27 px28)) (ret := none) (by decide) (Nat.le_of_ble_eq_true rfl) ?_
  intro p e s m below meth c A ls hAe hsz B hP hD hS hl
  have hx := B.1
  have hb := B.2.1
  have hl : lv_has ls 9 [(0, .ref ph0), (1, .int px25), (2, .int px26), (3, .int px27), (4, .int px28), (5, .int 1)] := hl
  refine lv_aload_n hx hb dX1_draw_0 rfl (lv_at hl 0 rfl) ?_
  refine uGet (ci := 1) (C := RX1) (T := TX1) (N := 7) (v := .ref ph1) B inlX1 hP 0 rfl rfl 1 rfl mfl_X1_29 rfl rfl dX1_draw_1 ?_
  refine lv_aload_n hx hb dX1_draw_4 rfl (lv_at hl 0 rfl) ?_
  refine uGet (ci := 1) (C := RX1) (T := TX1) (N := 7) (v := .ref ph1) B inlX1 hP 0 rfl rfl 1 rfl mfl_X1_29 rfl rfl dX1_draw_5 ?_
  refine uGet (ci := 3) (C := RX3) (T := TX3) (N := 10) (v := .int 0) B inlX3 hP 1 rfl rfl 6 rfl mfl_X1_37 rfl rfl dX1_draw_8 ?_
  refine lv_pc (q := 11) rfl ?_
  refine uVi (As := [.int 0]) (rest := []) (wr := [(ph0, .inr (1, [.ref ph4, .ref ph1, .ref pg7, .ref ph5, .ref ph6, .int 0, .int 0])), (ph4, .inr (4, [.ref pg14, .ref pg15, .ref pg16, .ref pg17, .ref pg18, .ref pg19, .ref pg20, .ref pg21, .ref pg22, .int 0])), (ph5, .inl (K 0, 12, .inl pf23)), (ph6, .inl (K 0, 12, .inl pf24))]) [(ph1, .inr (3, [.ref pg8, .ref pg9, .ref pg10, .ref pg11, .ref ph2, .ref ph3, .int 0, .int (-1), .int 1, .int 0])), (ph2, .inl (K 0, 24, .inl pf12)), (ph3, .inl (K 0, 24, .inl pf13))] B hl.1 hP hD hS [1, 2, 3] [0, 4, 5, 6] rfl rfl rfl (kX3_draw_94 l D K _ ph1 ph2 ph3 pg8 pg9 pg10 pg11 pf12 pf13) wd_X3_draw mml_X1_42 rfl rfl rfl rfl ⟨Nat.le_of_ble_eq_true rfl, Nat.le_of_ble_eq_true rfl⟩ (Nat.le_of_ble_eq_true rfl) ⟨Nat.le_of_ble_eq_true rfl, Nat.le_of_ble_eq_true rfl⟩ dX1_draw_11 (fun r1 u H locs hw hP hD hS => ?_)
  obtain ⟨u2, u3, u4⟩ := u
  try dsimp only at hw
  rcases hw with ⟨rfl, rfl⟩ | ⟨rfl, rfl⟩
  · have hP : va_P D vwCl [(ph0, .inr (1, [.ref ph4, .ref ph1, .ref pg7, .ref ph5, .ref ph6, .int 0, .int 0])), (ph4, .inr (4, [.ref pg14, .ref pg15, .ref pg16, .ref pg17, .ref pg18, .ref pg19, .ref pg20, .ref pg21, .ref pg22, .int 0])), (ph5, .inl (K 0, 12, .inl pf23)), (ph6, .inl (K 0, 12, .inl pf24)), (ph1, .inr (3, [.ref pg8, .ref pg9, .ref pg10, .ref pg11, .ref ph2, .ref ph3, .int 0, .int 0, .int 1, .int 0])), (ph2, .inl (K 0, 24, .inl u3)), (ph3, .inl (K 0, 24, .inl u4))] H := hP
    have hD : va_D A [(ph0, .inr (1, [.ref ph4, .ref ph1, .ref pg7, .ref ph5, .ref ph6, .int 0, .int 0])), (ph4, .inr (4, [.ref pg14, .ref pg15, .ref pg16, .ref pg17, .ref pg18, .ref pg19, .ref pg20, .ref pg21, .ref pg22, .int 0])), (ph5, .inl (K 0, 12, .inl pf23)), (ph6, .inl (K 0, 12, .inl pf24)), (ph1, .inr (3, [.ref pg8, .ref pg9, .ref pg10, .ref pg11, .ref ph2, .ref ph3, .int 0, .int 0, .int 1, .int 0])), (ph2, .inl (K 0, 24, .inl u3)), (ph3, .inl (K 0, 24, .inl u4))] := hD
    refine lv_pop hx hb dX1_draw_14 rfl ?_
    refine lv_aload_n hx hb dX1_draw_15 rfl (lv_at hl 0 rfl) ?_
    refine lv_aload_n hx hb dX1_draw_16 rfl (lv_at hl 0 rfl) ?_
    refine lv_iconst (v := 0) hx hb dX1_draw_17 (by decide) ?_
    refine lv_iload_n hx hb dX1_draw_18 rfl (lv_at hl 3 rfl) ?_
    refine lv_pc (q := 19) rfl ?_
    refine lv_iload hx hb dX1_draw_19 (lv_at hl 4 rfl) ?_
    refine uVi (As := [.int 0, .int px27, .int px28]) (rest := [.ref ph0]) (wr := [(ph5, .inl (K 0, 12, .inl pf23)), (ph6, .inl (K 0, 12, .inl pf24)), (ph1, .inr (3, [.ref pg8, .ref pg9, .ref pg10, .ref pg11, .ref ph2, .ref ph3, .int 0, .int 0, .int 1, .int 0])), (ph2, .inl (K 0, 24, .inl u3)), (ph3, .inl (K 0, 24, .inl u4))]) [(ph0, .inr (1, [.ref ph4, .ref ph1, .ref pg7, .ref ph5, .ref ph6, .int 0, .int 0])), (ph4, .inr (4, [.ref pg14, .ref pg15, .ref pg16, .ref pg17, .ref pg18, .ref pg19, .ref pg20, .ref pg21, .ref pg22, .int 0]))] B hl.1 hP hD hS [0, 1] [2, 3, 4, 5, 6] rfl rfl rfl (kX1_standingAs_95 l D K _ ph0 ph4 ph1 pg7 ph5 ph6 pg14 pg15 pg16 pg17 pg18 pg19 pg20 pg21 pg22 px27 px28) wd_X1_standingAs mml_X1_46 rfl rfl rfl rfl ⟨Nat.le_of_ble_eq_true rfl, Nat.le_of_ble_eq_true rfl⟩ (Nat.le_of_ble_eq_true rfl) ⟨Nat.le_of_ble_eq_true rfl, Nat.le_of_ble_eq_true rfl⟩ dX1_draw_21 (fun r5 u H locs hw hP hD hS => ?_)
    try dsimp only at hw
    rcases hw with rfl
    have hP : va_P D vwCl [(ph5, .inl (K 0, 12, .inl pf23)), (ph6, .inl (K 0, 12, .inl pf24)), (ph1, .inr (3, [.ref pg8, .ref pg9, .ref pg10, .ref pg11, .ref ph2, .ref ph3, .int 0, .int 0, .int 1, .int 0])), (ph2, .inl (K 0, 24, .inl u3)), (ph3, .inl (K 0, 24, .inl u4)), (ph0, .inr (1, [.ref ph4, .ref ph1, .ref pg7, .ref ph5, .ref ph6, .int 0, .int 0])), (ph4, .inr (4, [.ref pg14, .ref pg15, .ref pg16, .ref pg17, .ref pg18, .ref pg19, .ref pg20, .ref pg21, .ref pg22, .int 0]))] H := hP
    have hD : va_D A [(ph5, .inl (K 0, 12, .inl pf23)), (ph6, .inl (K 0, 12, .inl pf24)), (ph1, .inr (3, [.ref pg8, .ref pg9, .ref pg10, .ref pg11, .ref ph2, .ref ph3, .int 0, .int 0, .int 1, .int 0])), (ph2, .inl (K 0, 24, .inl u3)), (ph3, .inl (K 0, 24, .inl u4)), (ph0, .inr (1, [.ref ph4, .ref ph1, .ref pg7, .ref ph5, .ref ph6, .int 0, .int 0])), (ph4, .inr (4, [.ref pg14, .ref pg15, .ref pg16, .ref pg17, .ref pg18, .ref pg19, .ref pg20, .ref pg21, .ref pg22, .int 0]))] := hD
    refine uPut (ci := 1) (C := RX1) (T := TX1) (N := 7) (ws' := [(ph5, .inl (K 0, 12, .inl pf23)), (ph6, .inl (K 0, 12, .inl pf24)), (ph1, .inr (3, [.ref pg8, .ref pg9, .ref pg10, .ref pg11, .ref ph2, .ref ph3, .int 0, .int 0, .int 1, .int 0])), (ph2, .inl (K 0, 24, .inl u3)), (ph3, .inl (K 0, 24, .inl u4)), (ph0, .inr (1, [.ref ph4, .ref ph1, .ref pg7, .ref ph5, .ref ph6, .int 0, .int 0])), (ph4, .inr (4, [.ref pg14, .ref pg15, .ref pg16, .ref pg17, .ref pg18, .ref pg19, .ref pg20, .ref pg21, .ref pg22, .int 0]))]) B inlX1 tyX1_ok nmX1 hP hD hS 5 rfl rfl 5 rfl mfl_X1_18 rfl rfl rfl rfl rfl rfl dX1_draw_24 (fun H locs hP hD hS => ?_)
    refine lv_aload_n hx hb dX1_draw_27 rfl (lv_at hl 0 rfl) ?_
    refine lv_iload hx hb dX1_draw_28 (lv_at hl 5 rfl) ?_
    refine lv_if_eq (tgt := 44) hx hb dX1_draw_30 (by decide) (fun h9 => absurd h9 (by decide)) (fun _ => ?_)
    refine lv_pc (q := 33) rfl ?_
    refine lv_aload_n hx hb dX1_draw_33 rfl (lv_at hl 0 rfl) ?_
    refine lv_iconst (v := 1) hx hb dX1_draw_34 (by decide) ?_
    refine lv_iload_n hx hb dX1_draw_35 rfl (lv_at hl 3 rfl) ?_
    refine lv_iload hx hb dX1_draw_36 (lv_at hl 4 rfl) ?_
    refine uVi (As := [.int 1, .int px27, .int px28]) (rest := [.ref ph0]) (wr := [(ph5, .inl (K 0, 12, .inl pf23)), (ph6, .inl (K 0, 12, .inl pf24)), (ph1, .inr (3, [.ref pg8, .ref pg9, .ref pg10, .ref pg11, .ref ph2, .ref ph3, .int 0, .int 0, .int 1, .int 0])), (ph2, .inl (K 0, 24, .inl u3)), (ph3, .inl (K 0, 24, .inl u4))]) [(ph0, .inr (1, [.ref ph4, .ref ph1, .ref pg7, .ref ph5, .ref ph6, .int 0, .int 0])), (ph4, .inr (4, [.ref pg14, .ref pg15, .ref pg16, .ref pg17, .ref pg18, .ref pg19, .ref pg20, .ref pg21, .ref pg22, .int 0]))] B hl.1 hP hD hS [5, 6] [0, 1, 2, 3, 4] rfl rfl rfl (kX1_standingAs_108 l D K _ ph0 ph4 ph1 pg7 ph5 ph6 pg14 pg15 pg16 pg17 pg18 pg19 pg20 pg21 pg22 px27 px28) wd_X1_standingAs mml_X1_46 rfl rfl rfl rfl ⟨Nat.le_of_ble_eq_true rfl, Nat.le_of_ble_eq_true rfl⟩ (Nat.le_of_ble_eq_true rfl) ⟨Nat.le_of_ble_eq_true rfl, Nat.le_of_ble_eq_true rfl⟩ dX1_draw_38 (fun r6 u H locs hw hP hD hS => ?_)
    try dsimp only at hw
    rcases hw with rfl
    have hP : va_P D vwCl [(ph5, .inl (K 0, 12, .inl pf23)), (ph6, .inl (K 0, 12, .inl pf24)), (ph1, .inr (3, [.ref pg8, .ref pg9, .ref pg10, .ref pg11, .ref ph2, .ref ph3, .int 0, .int 0, .int 1, .int 0])), (ph2, .inl (K 0, 24, .inl u3)), (ph3, .inl (K 0, 24, .inl u4)), (ph0, .inr (1, [.ref ph4, .ref ph1, .ref pg7, .ref ph5, .ref ph6, .int 0, .int 0])), (ph4, .inr (4, [.ref pg14, .ref pg15, .ref pg16, .ref pg17, .ref pg18, .ref pg19, .ref pg20, .ref pg21, .ref pg22, .int 0]))] H := hP
    have hD : va_D A [(ph5, .inl (K 0, 12, .inl pf23)), (ph6, .inl (K 0, 12, .inl pf24)), (ph1, .inr (3, [.ref pg8, .ref pg9, .ref pg10, .ref pg11, .ref ph2, .ref ph3, .int 0, .int 0, .int 1, .int 0])), (ph2, .inl (K 0, 24, .inl u3)), (ph3, .inl (K 0, 24, .inl u4)), (ph0, .inr (1, [.ref ph4, .ref ph1, .ref pg7, .ref ph5, .ref ph6, .int 0, .int 0])), (ph4, .inr (4, [.ref pg14, .ref pg15, .ref pg16, .ref pg17, .ref pg18, .ref pg19, .ref pg20, .ref pg21, .ref pg22, .int 0]))] := hD
    refine lv_goto (tgt := 45) hx hb dX1_draw_41 (by decide) ?_
    refine lv_pc (q := 45) rfl ?_
    refine uPut (ci := 1) (C := RX1) (T := TX1) (N := 7) (ws' := [(ph5, .inl (K 0, 12, .inl pf23)), (ph6, .inl (K 0, 12, .inl pf24)), (ph1, .inr (3, [.ref pg8, .ref pg9, .ref pg10, .ref pg11, .ref ph2, .ref ph3, .int 0, .int 0, .int 1, .int 0])), (ph2, .inl (K 0, 24, .inl u3)), (ph3, .inl (K 0, 24, .inl u4)), (ph0, .inr (1, [.ref ph4, .ref ph1, .ref pg7, .ref ph5, .ref ph6, .int 0, .int 0])), (ph4, .inr (4, [.ref pg14, .ref pg15, .ref pg16, .ref pg17, .ref pg18, .ref pg19, .ref pg20, .ref pg21, .ref pg22, .int 0]))]) B inlX1 tyX1_ok nmX1 hP hD hS 5 rfl rfl 6 rfl mfl_X1_22 rfl rfl rfl rfl rfl rfl dX1_draw_45 (fun H locs hP hD hS => ?_)
    refine lv_aload_n hx hb dX1_draw_48 rfl (lv_at hl 0 rfl) ?_
    refine uGet (ci := 1) (C := RX1) (T := TX1) (N := 7) (v := .ref ph5) B inlX1 hP 5 rfl rfl 3 rfl mfl_X1_9 rfl rfl dX1_draw_49 ?_
    refine lv_iconst (v := 0) hx hb dX1_draw_52 (by decide) ?_
    refine uSv (As := [.ref ph5, .int 0]) (rest := []) (wr := [(ph6, .inl (K 0, 12, .inl pf24)), (ph1, .inr (3, [.ref pg8, .ref pg9, .ref pg10, .ref pg11, .ref ph2, .ref ph3, .int 0, .int 0, .int 1, .int 0])), (ph2, .inl (K 0, 24, .inl u3)), (ph3, .inl (K 0, 24, .inl u4)), (ph0, .inr (1, [.ref ph4, .ref ph1, .ref pg7, .ref ph5, .ref ph6, .int 0, .int 0])), (ph4, .inr (4, [.ref pg14, .ref pg15, .ref pg16, .ref pg17, .ref pg18, .ref pg19, .ref pg20, .ref pg21, .ref pg22, .int 0]))]) [(ph5, .inl (K 0, 12, .inl pf23))] B hl.1 hP hD hS [0] [1, 2, 3, 4, 5, 6] rfl rfl rfl (kJ7_fill_53178_96 l D K _ ph5 pf23) wd_J7_fill_53178 mml_X1_50 rfl rfl ⟨Nat.le_of_ble_eq_true rfl, Nat.le_of_ble_eq_true rfl⟩ (Nat.le_of_ble_eq_true rfl) ⟨Nat.le_of_ble_eq_true rfl, Nat.le_of_ble_eq_true rfl⟩ dX1_draw_53 (fun u H locs hw hP hD hS => ?_)
    obtain ⟨u8, e9⟩ : ∃ y, y = u := ⟨_, rfl⟩
    subst e9
    try dsimp only at hw
    have hP : va_P D vwCl [(ph6, .inl (K 0, 12, .inl pf24)), (ph1, .inr (3, [.ref pg8, .ref pg9, .ref pg10, .ref pg11, .ref ph2, .ref ph3, .int 0, .int 0, .int 1, .int 0])), (ph2, .inl (K 0, 24, .inl u3)), (ph3, .inl (K 0, 24, .inl u4)), (ph0, .inr (1, [.ref ph4, .ref ph1, .ref pg7, .ref ph5, .ref ph6, .int 0, .int 0])), (ph4, .inr (4, [.ref pg14, .ref pg15, .ref pg16, .ref pg17, .ref pg18, .ref pg19, .ref pg20, .ref pg21, .ref pg22, .int 0])), (ph5, .inl (K 0, 12, .inl u8))] H := hP
    have hD : va_D A [(ph6, .inl (K 0, 12, .inl pf24)), (ph1, .inr (3, [.ref pg8, .ref pg9, .ref pg10, .ref pg11, .ref ph2, .ref ph3, .int 0, .int 0, .int 1, .int 0])), (ph2, .inl (K 0, 24, .inl u3)), (ph3, .inl (K 0, 24, .inl u4)), (ph0, .inr (1, [.ref ph4, .ref ph1, .ref pg7, .ref ph5, .ref ph6, .int 0, .int 0])), (ph4, .inr (4, [.ref pg14, .ref pg15, .ref pg16, .ref pg17, .ref pg18, .ref pg19, .ref pg20, .ref pg21, .ref pg22, .int 0])), (ph5, .inl (K 0, 12, .inl u8))] := hD
    refine lv_aload_n hx hb dX1_draw_56 rfl (lv_at hl 0 rfl) ?_
    refine lv_pc (q := 57) rfl ?_
    refine uGet (ci := 1) (C := RX1) (T := TX1) (N := 7) (v := .ref ph6) B inlX1 hP 4 rfl rfl 4 rfl mfl_X1_15 rfl rfl dX1_draw_57 ?_
    refine lv_iconst (v := 0) hx hb dX1_draw_60 (by decide) ?_
    refine uSv (As := [.ref ph6, .int 0]) (rest := []) (wr := [(ph1, .inr (3, [.ref pg8, .ref pg9, .ref pg10, .ref pg11, .ref ph2, .ref ph3, .int 0, .int 0, .int 1, .int 0])), (ph2, .inl (K 0, 24, .inl u3)), (ph3, .inl (K 0, 24, .inl u4)), (ph0, .inr (1, [.ref ph4, .ref ph1, .ref pg7, .ref ph5, .ref ph6, .int 0, .int 0])), (ph4, .inr (4, [.ref pg14, .ref pg15, .ref pg16, .ref pg17, .ref pg18, .ref pg19, .ref pg20, .ref pg21, .ref pg22, .int 0])), (ph5, .inl (K 0, 12, .inl u8))]) [(ph6, .inl (K 0, 12, .inl pf24))] B hl.1 hP hD hS [0] [1, 2, 3, 4, 5, 6] rfl rfl rfl (kJ7_fill_53178_96 l D K _ ph6 pf24) wd_J7_fill_53178 mml_X1_50 rfl rfl ⟨Nat.le_of_ble_eq_true rfl, Nat.le_of_ble_eq_true rfl⟩ (Nat.le_of_ble_eq_true rfl) ⟨Nat.le_of_ble_eq_true rfl, Nat.le_of_ble_eq_true rfl⟩ dX1_draw_61 (fun u H locs hw hP hD hS => ?_)
    obtain ⟨u10, e9⟩ : ∃ y, y = u := ⟨_, rfl⟩
    subst e9
    try dsimp only at hw
    have hP : va_P D vwCl [(ph1, .inr (3, [.ref pg8, .ref pg9, .ref pg10, .ref pg11, .ref ph2, .ref ph3, .int 0, .int 0, .int 1, .int 0])), (ph2, .inl (K 0, 24, .inl u3)), (ph3, .inl (K 0, 24, .inl u4)), (ph0, .inr (1, [.ref ph4, .ref ph1, .ref pg7, .ref ph5, .ref ph6, .int 0, .int 0])), (ph4, .inr (4, [.ref pg14, .ref pg15, .ref pg16, .ref pg17, .ref pg18, .ref pg19, .ref pg20, .ref pg21, .ref pg22, .int 0])), (ph5, .inl (K 0, 12, .inl u8)), (ph6, .inl (K 0, 12, .inl u10))] H := hP
    have hD : va_D A [(ph1, .inr (3, [.ref pg8, .ref pg9, .ref pg10, .ref pg11, .ref ph2, .ref ph3, .int 0, .int 0, .int 1, .int 0])), (ph2, .inl (K 0, 24, .inl u3)), (ph3, .inl (K 0, 24, .inl u4)), (ph0, .inr (1, [.ref ph4, .ref ph1, .ref pg7, .ref ph5, .ref ph6, .int 0, .int 0])), (ph4, .inr (4, [.ref pg14, .ref pg15, .ref pg16, .ref pg17, .ref pg18, .ref pg19, .ref pg20, .ref pg21, .ref pg22, .int 0])), (ph5, .inl (K 0, 12, .inl u8)), (ph6, .inl (K 0, 12, .inl u10))] := hD
    refine lv_aload_n hx hb dX1_draw_64 rfl (lv_at hl 0 rfl) ?_
    refine uGet (ci := 1) (C := RX1) (T := TX1) (N := 7) (v := .int 0) B inlX1 hP 3 rfl rfl 5 rfl mfl_X1_18 rfl rfl dX1_draw_65 ?_
    refine lv_aload_n hx hb dX1_draw_68 rfl (lv_at hl 0 rfl) ?_
    refine lv_pc (q := 69) rfl ?_
    refine uGet (ci := 1) (C := RX1) (T := TX1) (N := 7) (v := .int 0) B inlX1 hP 3 rfl rfl 6 rfl mfl_X1_22 rfl rfl dX1_draw_69 ?_
    refine lv_ior hx hb dX1_draw_72 ?_
    refine lv_fixi (y := 0) (by decide) ?_
    refine lv_istore (lv' := [(6, .int 0), (0, .ref ph0), (1, .int px25), (2, .int px26), (3, .int px27), (4, .int px28), (5, .int 1)]) hx hb dX1_draw_73 hl (by decide) rfl (fun ls hl => ?_)
    refine lv_iconst (v := 0) hx hb dX1_draw_75 (by decide) ?_
    refine lv_istore (lv' := [(7, .int 0), (6, .int 0), (0, .ref ph0), (1, .int px25), (2, .int px26), (3, .int px27), (4, .int px28), (5, .int 1)]) hx hb dX1_draw_76 hl (by decide) rfl (fun ls hl => ?_)
    refine lv_iload hx hb dX1_draw_78 (lv_at hl 0 rfl) ?_
    refine lv_pc (q := 80) rfl ?_
    refine lv_aload_n hx hb dX1_draw_80 rfl (lv_at hl 2 rfl) ?_
    refine uGet (ci := 1) (C := RX1) (T := TX1) (N := 7) (v := .ref ph4) B inlX1 hP 3 rfl rfl 0 rfl mfl_X1_25 rfl rfl dX1_draw_81 ?_
    refine uGet (ci := 4) (C := RX4) (T := TX4) (N := 10) (v := .int 0) B inlX4 hP 4 rfl rfl 9 rfl mfl_X1_56 rfl rfl dX1_draw_84 ?_
    refine lv_icmp_ge (tgt := 160) hx hb dX1_draw_87 (by decide) (fun _ => ?_) (fun h9 => absurd (by decide) h9)
    exact uRv (1, u3, u4, u8, u10) B (Or.inl rfl) (uSub hP [3, 0, 1, 2, 4, 5, 6] rfl) (hD.sub [3, 0, 1, 2, 4, 5, 6] rfl rfl) hS dX1_draw_160
  have hP : va_P D vwCl [(ph0, .inr (1, [.ref ph4, .ref ph1, .ref pg7, .ref ph5, .ref ph6, .int 0, .int 0])), (ph4, .inr (4, [.ref pg14, .ref pg15, .ref pg16, .ref pg17, .ref pg18, .ref pg19, .ref pg20, .ref pg21, .ref pg22, .int 0])), (ph5, .inl (K 0, 12, .inl pf23)), (ph6, .inl (K 0, 12, .inl pf24)), (ph1, .inr (3, [.ref pg8, .ref pg9, .ref pg10, .ref pg11, .ref ph2, .ref ph3, .int 0, .int 0, .int 0, .int 0])), (ph2, .inl (K 0, 24, .inl u3)), (ph3, .inl (K 0, 24, .inl u4))] H := hP
  have hD : va_D A [(ph0, .inr (1, [.ref ph4, .ref ph1, .ref pg7, .ref ph5, .ref ph6, .int 0, .int 0])), (ph4, .inr (4, [.ref pg14, .ref pg15, .ref pg16, .ref pg17, .ref pg18, .ref pg19, .ref pg20, .ref pg21, .ref pg22, .int 0])), (ph5, .inl (K 0, 12, .inl pf23)), (ph6, .inl (K 0, 12, .inl pf24)), (ph1, .inr (3, [.ref pg8, .ref pg9, .ref pg10, .ref pg11, .ref ph2, .ref ph3, .int 0, .int 0, .int 0, .int 0])), (ph2, .inl (K 0, 24, .inl u3)), (ph3, .inl (K 0, 24, .inl u4))] := hD
  refine lv_pop hx hb dX1_draw_14 rfl ?_
  refine lv_aload_n hx hb dX1_draw_15 rfl (lv_at hl 0 rfl) ?_
  refine lv_aload_n hx hb dX1_draw_16 rfl (lv_at hl 0 rfl) ?_
  refine lv_iconst (v := 0) hx hb dX1_draw_17 (by decide) ?_
  refine lv_iload_n hx hb dX1_draw_18 rfl (lv_at hl 3 rfl) ?_
  refine lv_pc (q := 19) rfl ?_
  refine lv_iload hx hb dX1_draw_19 (lv_at hl 4 rfl) ?_
  refine uVi (As := [.int 0, .int px27, .int px28]) (rest := [.ref ph0]) (wr := [(ph5, .inl (K 0, 12, .inl pf23)), (ph6, .inl (K 0, 12, .inl pf24)), (ph1, .inr (3, [.ref pg8, .ref pg9, .ref pg10, .ref pg11, .ref ph2, .ref ph3, .int 0, .int 0, .int 0, .int 0])), (ph2, .inl (K 0, 24, .inl u3)), (ph3, .inl (K 0, 24, .inl u4))]) [(ph0, .inr (1, [.ref ph4, .ref ph1, .ref pg7, .ref ph5, .ref ph6, .int 0, .int 0])), (ph4, .inr (4, [.ref pg14, .ref pg15, .ref pg16, .ref pg17, .ref pg18, .ref pg19, .ref pg20, .ref pg21, .ref pg22, .int 0]))] B hl.1 hP hD hS [0, 1] [2, 3, 4, 5, 6] rfl rfl rfl (kX1_standingAs_95 l D K _ ph0 ph4 ph1 pg7 ph5 ph6 pg14 pg15 pg16 pg17 pg18 pg19 pg20 pg21 pg22 px27 px28) wd_X1_standingAs mml_X1_46 rfl rfl rfl rfl ⟨Nat.le_of_ble_eq_true rfl, Nat.le_of_ble_eq_true rfl⟩ (Nat.le_of_ble_eq_true rfl) ⟨Nat.le_of_ble_eq_true rfl, Nat.le_of_ble_eq_true rfl⟩ dX1_draw_21 (fun r11 u H locs hw hP hD hS => ?_)
  try dsimp only at hw
  rcases hw with rfl
  have hP : va_P D vwCl [(ph5, .inl (K 0, 12, .inl pf23)), (ph6, .inl (K 0, 12, .inl pf24)), (ph1, .inr (3, [.ref pg8, .ref pg9, .ref pg10, .ref pg11, .ref ph2, .ref ph3, .int 0, .int 0, .int 0, .int 0])), (ph2, .inl (K 0, 24, .inl u3)), (ph3, .inl (K 0, 24, .inl u4)), (ph0, .inr (1, [.ref ph4, .ref ph1, .ref pg7, .ref ph5, .ref ph6, .int 0, .int 0])), (ph4, .inr (4, [.ref pg14, .ref pg15, .ref pg16, .ref pg17, .ref pg18, .ref pg19, .ref pg20, .ref pg21, .ref pg22, .int 0]))] H := hP
  have hD : va_D A [(ph5, .inl (K 0, 12, .inl pf23)), (ph6, .inl (K 0, 12, .inl pf24)), (ph1, .inr (3, [.ref pg8, .ref pg9, .ref pg10, .ref pg11, .ref ph2, .ref ph3, .int 0, .int 0, .int 0, .int 0])), (ph2, .inl (K 0, 24, .inl u3)), (ph3, .inl (K 0, 24, .inl u4)), (ph0, .inr (1, [.ref ph4, .ref ph1, .ref pg7, .ref ph5, .ref ph6, .int 0, .int 0])), (ph4, .inr (4, [.ref pg14, .ref pg15, .ref pg16, .ref pg17, .ref pg18, .ref pg19, .ref pg20, .ref pg21, .ref pg22, .int 0]))] := hD
  refine uPut (ci := 1) (C := RX1) (T := TX1) (N := 7) (ws' := [(ph5, .inl (K 0, 12, .inl pf23)), (ph6, .inl (K 0, 12, .inl pf24)), (ph1, .inr (3, [.ref pg8, .ref pg9, .ref pg10, .ref pg11, .ref ph2, .ref ph3, .int 0, .int 0, .int 0, .int 0])), (ph2, .inl (K 0, 24, .inl u3)), (ph3, .inl (K 0, 24, .inl u4)), (ph0, .inr (1, [.ref ph4, .ref ph1, .ref pg7, .ref ph5, .ref ph6, .int 0, .int 0])), (ph4, .inr (4, [.ref pg14, .ref pg15, .ref pg16, .ref pg17, .ref pg18, .ref pg19, .ref pg20, .ref pg21, .ref pg22, .int 0]))]) B inlX1 tyX1_ok nmX1 hP hD hS 5 rfl rfl 5 rfl mfl_X1_18 rfl rfl rfl rfl rfl rfl dX1_draw_24 (fun H locs hP hD hS => ?_)
  refine lv_aload_n hx hb dX1_draw_27 rfl (lv_at hl 0 rfl) ?_
  refine lv_iload hx hb dX1_draw_28 (lv_at hl 5 rfl) ?_
  refine lv_if_eq (tgt := 44) hx hb dX1_draw_30 (by decide) (fun h9 => absurd h9 (by decide)) (fun _ => ?_)
  refine lv_pc (q := 33) rfl ?_
  refine lv_aload_n hx hb dX1_draw_33 rfl (lv_at hl 0 rfl) ?_
  refine lv_iconst (v := 1) hx hb dX1_draw_34 (by decide) ?_
  refine lv_iload_n hx hb dX1_draw_35 rfl (lv_at hl 3 rfl) ?_
  refine lv_iload hx hb dX1_draw_36 (lv_at hl 4 rfl) ?_
  refine uVi (As := [.int 1, .int px27, .int px28]) (rest := [.ref ph0]) (wr := [(ph5, .inl (K 0, 12, .inl pf23)), (ph6, .inl (K 0, 12, .inl pf24)), (ph1, .inr (3, [.ref pg8, .ref pg9, .ref pg10, .ref pg11, .ref ph2, .ref ph3, .int 0, .int 0, .int 0, .int 0])), (ph2, .inl (K 0, 24, .inl u3)), (ph3, .inl (K 0, 24, .inl u4))]) [(ph0, .inr (1, [.ref ph4, .ref ph1, .ref pg7, .ref ph5, .ref ph6, .int 0, .int 0])), (ph4, .inr (4, [.ref pg14, .ref pg15, .ref pg16, .ref pg17, .ref pg18, .ref pg19, .ref pg20, .ref pg21, .ref pg22, .int 0]))] B hl.1 hP hD hS [5, 6] [0, 1, 2, 3, 4] rfl rfl rfl (kX1_standingAs_108 l D K _ ph0 ph4 ph1 pg7 ph5 ph6 pg14 pg15 pg16 pg17 pg18 pg19 pg20 pg21 pg22 px27 px28) wd_X1_standingAs mml_X1_46 rfl rfl rfl rfl ⟨Nat.le_of_ble_eq_true rfl, Nat.le_of_ble_eq_true rfl⟩ (Nat.le_of_ble_eq_true rfl) ⟨Nat.le_of_ble_eq_true rfl, Nat.le_of_ble_eq_true rfl⟩ dX1_draw_38 (fun r12 u H locs hw hP hD hS => ?_)
  try dsimp only at hw
  rcases hw with rfl
  have hP : va_P D vwCl [(ph5, .inl (K 0, 12, .inl pf23)), (ph6, .inl (K 0, 12, .inl pf24)), (ph1, .inr (3, [.ref pg8, .ref pg9, .ref pg10, .ref pg11, .ref ph2, .ref ph3, .int 0, .int 0, .int 0, .int 0])), (ph2, .inl (K 0, 24, .inl u3)), (ph3, .inl (K 0, 24, .inl u4)), (ph0, .inr (1, [.ref ph4, .ref ph1, .ref pg7, .ref ph5, .ref ph6, .int 0, .int 0])), (ph4, .inr (4, [.ref pg14, .ref pg15, .ref pg16, .ref pg17, .ref pg18, .ref pg19, .ref pg20, .ref pg21, .ref pg22, .int 0]))] H := hP
  have hD : va_D A [(ph5, .inl (K 0, 12, .inl pf23)), (ph6, .inl (K 0, 12, .inl pf24)), (ph1, .inr (3, [.ref pg8, .ref pg9, .ref pg10, .ref pg11, .ref ph2, .ref ph3, .int 0, .int 0, .int 0, .int 0])), (ph2, .inl (K 0, 24, .inl u3)), (ph3, .inl (K 0, 24, .inl u4)), (ph0, .inr (1, [.ref ph4, .ref ph1, .ref pg7, .ref ph5, .ref ph6, .int 0, .int 0])), (ph4, .inr (4, [.ref pg14, .ref pg15, .ref pg16, .ref pg17, .ref pg18, .ref pg19, .ref pg20, .ref pg21, .ref pg22, .int 0]))] := hD
  refine lv_goto (tgt := 45) hx hb dX1_draw_41 (by decide) ?_
  refine lv_pc (q := 45) rfl ?_
  refine uPut (ci := 1) (C := RX1) (T := TX1) (N := 7) (ws' := [(ph5, .inl (K 0, 12, .inl pf23)), (ph6, .inl (K 0, 12, .inl pf24)), (ph1, .inr (3, [.ref pg8, .ref pg9, .ref pg10, .ref pg11, .ref ph2, .ref ph3, .int 0, .int 0, .int 0, .int 0])), (ph2, .inl (K 0, 24, .inl u3)), (ph3, .inl (K 0, 24, .inl u4)), (ph0, .inr (1, [.ref ph4, .ref ph1, .ref pg7, .ref ph5, .ref ph6, .int 0, .int 0])), (ph4, .inr (4, [.ref pg14, .ref pg15, .ref pg16, .ref pg17, .ref pg18, .ref pg19, .ref pg20, .ref pg21, .ref pg22, .int 0]))]) B inlX1 tyX1_ok nmX1 hP hD hS 5 rfl rfl 6 rfl mfl_X1_22 rfl rfl rfl rfl rfl rfl dX1_draw_45 (fun H locs hP hD hS => ?_)
  refine lv_aload_n hx hb dX1_draw_48 rfl (lv_at hl 0 rfl) ?_
  refine uGet (ci := 1) (C := RX1) (T := TX1) (N := 7) (v := .ref ph5) B inlX1 hP 5 rfl rfl 3 rfl mfl_X1_9 rfl rfl dX1_draw_49 ?_
  refine lv_iconst (v := 0) hx hb dX1_draw_52 (by decide) ?_
  refine uSv (As := [.ref ph5, .int 0]) (rest := []) (wr := [(ph6, .inl (K 0, 12, .inl pf24)), (ph1, .inr (3, [.ref pg8, .ref pg9, .ref pg10, .ref pg11, .ref ph2, .ref ph3, .int 0, .int 0, .int 0, .int 0])), (ph2, .inl (K 0, 24, .inl u3)), (ph3, .inl (K 0, 24, .inl u4)), (ph0, .inr (1, [.ref ph4, .ref ph1, .ref pg7, .ref ph5, .ref ph6, .int 0, .int 0])), (ph4, .inr (4, [.ref pg14, .ref pg15, .ref pg16, .ref pg17, .ref pg18, .ref pg19, .ref pg20, .ref pg21, .ref pg22, .int 0]))]) [(ph5, .inl (K 0, 12, .inl pf23))] B hl.1 hP hD hS [0] [1, 2, 3, 4, 5, 6] rfl rfl rfl (kJ7_fill_53178_96 l D K _ ph5 pf23) wd_J7_fill_53178 mml_X1_50 rfl rfl ⟨Nat.le_of_ble_eq_true rfl, Nat.le_of_ble_eq_true rfl⟩ (Nat.le_of_ble_eq_true rfl) ⟨Nat.le_of_ble_eq_true rfl, Nat.le_of_ble_eq_true rfl⟩ dX1_draw_53 (fun u H locs hw hP hD hS => ?_)
  obtain ⟨u14, e9⟩ : ∃ y, y = u := ⟨_, rfl⟩
  subst e9
  try dsimp only at hw
  have hP : va_P D vwCl [(ph6, .inl (K 0, 12, .inl pf24)), (ph1, .inr (3, [.ref pg8, .ref pg9, .ref pg10, .ref pg11, .ref ph2, .ref ph3, .int 0, .int 0, .int 0, .int 0])), (ph2, .inl (K 0, 24, .inl u3)), (ph3, .inl (K 0, 24, .inl u4)), (ph0, .inr (1, [.ref ph4, .ref ph1, .ref pg7, .ref ph5, .ref ph6, .int 0, .int 0])), (ph4, .inr (4, [.ref pg14, .ref pg15, .ref pg16, .ref pg17, .ref pg18, .ref pg19, .ref pg20, .ref pg21, .ref pg22, .int 0])), (ph5, .inl (K 0, 12, .inl u14))] H := hP
  have hD : va_D A [(ph6, .inl (K 0, 12, .inl pf24)), (ph1, .inr (3, [.ref pg8, .ref pg9, .ref pg10, .ref pg11, .ref ph2, .ref ph3, .int 0, .int 0, .int 0, .int 0])), (ph2, .inl (K 0, 24, .inl u3)), (ph3, .inl (K 0, 24, .inl u4)), (ph0, .inr (1, [.ref ph4, .ref ph1, .ref pg7, .ref ph5, .ref ph6, .int 0, .int 0])), (ph4, .inr (4, [.ref pg14, .ref pg15, .ref pg16, .ref pg17, .ref pg18, .ref pg19, .ref pg20, .ref pg21, .ref pg22, .int 0])), (ph5, .inl (K 0, 12, .inl u14))] := hD
  refine lv_aload_n hx hb dX1_draw_56 rfl (lv_at hl 0 rfl) ?_
  refine lv_pc (q := 57) rfl ?_
  refine uGet (ci := 1) (C := RX1) (T := TX1) (N := 7) (v := .ref ph6) B inlX1 hP 4 rfl rfl 4 rfl mfl_X1_15 rfl rfl dX1_draw_57 ?_
  refine lv_iconst (v := 0) hx hb dX1_draw_60 (by decide) ?_
  refine uSv (As := [.ref ph6, .int 0]) (rest := []) (wr := [(ph1, .inr (3, [.ref pg8, .ref pg9, .ref pg10, .ref pg11, .ref ph2, .ref ph3, .int 0, .int 0, .int 0, .int 0])), (ph2, .inl (K 0, 24, .inl u3)), (ph3, .inl (K 0, 24, .inl u4)), (ph0, .inr (1, [.ref ph4, .ref ph1, .ref pg7, .ref ph5, .ref ph6, .int 0, .int 0])), (ph4, .inr (4, [.ref pg14, .ref pg15, .ref pg16, .ref pg17, .ref pg18, .ref pg19, .ref pg20, .ref pg21, .ref pg22, .int 0])), (ph5, .inl (K 0, 12, .inl u14))]) [(ph6, .inl (K 0, 12, .inl pf24))] B hl.1 hP hD hS [0] [1, 2, 3, 4, 5, 6] rfl rfl rfl (kJ7_fill_53178_96 l D K _ ph6 pf24) wd_J7_fill_53178 mml_X1_50 rfl rfl ⟨Nat.le_of_ble_eq_true rfl, Nat.le_of_ble_eq_true rfl⟩ (Nat.le_of_ble_eq_true rfl) ⟨Nat.le_of_ble_eq_true rfl, Nat.le_of_ble_eq_true rfl⟩ dX1_draw_61 (fun u H locs hw hP hD hS => ?_)
  obtain ⟨u16, e9⟩ : ∃ y, y = u := ⟨_, rfl⟩
  subst e9
  try dsimp only at hw
  have hP : va_P D vwCl [(ph1, .inr (3, [.ref pg8, .ref pg9, .ref pg10, .ref pg11, .ref ph2, .ref ph3, .int 0, .int 0, .int 0, .int 0])), (ph2, .inl (K 0, 24, .inl u3)), (ph3, .inl (K 0, 24, .inl u4)), (ph0, .inr (1, [.ref ph4, .ref ph1, .ref pg7, .ref ph5, .ref ph6, .int 0, .int 0])), (ph4, .inr (4, [.ref pg14, .ref pg15, .ref pg16, .ref pg17, .ref pg18, .ref pg19, .ref pg20, .ref pg21, .ref pg22, .int 0])), (ph5, .inl (K 0, 12, .inl u14)), (ph6, .inl (K 0, 12, .inl u16))] H := hP
  have hD : va_D A [(ph1, .inr (3, [.ref pg8, .ref pg9, .ref pg10, .ref pg11, .ref ph2, .ref ph3, .int 0, .int 0, .int 0, .int 0])), (ph2, .inl (K 0, 24, .inl u3)), (ph3, .inl (K 0, 24, .inl u4)), (ph0, .inr (1, [.ref ph4, .ref ph1, .ref pg7, .ref ph5, .ref ph6, .int 0, .int 0])), (ph4, .inr (4, [.ref pg14, .ref pg15, .ref pg16, .ref pg17, .ref pg18, .ref pg19, .ref pg20, .ref pg21, .ref pg22, .int 0])), (ph5, .inl (K 0, 12, .inl u14)), (ph6, .inl (K 0, 12, .inl u16))] := hD
  refine lv_aload_n hx hb dX1_draw_64 rfl (lv_at hl 0 rfl) ?_
  refine uGet (ci := 1) (C := RX1) (T := TX1) (N := 7) (v := .int 0) B inlX1 hP 3 rfl rfl 5 rfl mfl_X1_18 rfl rfl dX1_draw_65 ?_
  refine lv_aload_n hx hb dX1_draw_68 rfl (lv_at hl 0 rfl) ?_
  refine lv_pc (q := 69) rfl ?_
  refine uGet (ci := 1) (C := RX1) (T := TX1) (N := 7) (v := .int 0) B inlX1 hP 3 rfl rfl 6 rfl mfl_X1_22 rfl rfl dX1_draw_69 ?_
  refine lv_ior hx hb dX1_draw_72 ?_
  refine lv_fixi (y := 0) (by decide) ?_
  refine lv_istore (lv' := [(6, .int 0), (0, .ref ph0), (1, .int px25), (2, .int px26), (3, .int px27), (4, .int px28), (5, .int 1)]) hx hb dX1_draw_73 hl (by decide) rfl (fun ls hl => ?_)
  refine lv_iconst (v := 0) hx hb dX1_draw_75 (by decide) ?_
  refine lv_istore (lv' := [(7, .int 0), (6, .int 0), (0, .ref ph0), (1, .int px25), (2, .int px26), (3, .int px27), (4, .int px28), (5, .int 1)]) hx hb dX1_draw_76 hl (by decide) rfl (fun ls hl => ?_)
  refine lv_iload hx hb dX1_draw_78 (lv_at hl 0 rfl) ?_
  refine lv_pc (q := 80) rfl ?_
  refine lv_aload_n hx hb dX1_draw_80 rfl (lv_at hl 2 rfl) ?_
  refine uGet (ci := 1) (C := RX1) (T := TX1) (N := 7) (v := .ref ph4) B inlX1 hP 3 rfl rfl 0 rfl mfl_X1_25 rfl rfl dX1_draw_81 ?_
  refine uGet (ci := 4) (C := RX4) (T := TX4) (N := 10) (v := .int 0) B inlX4 hP 4 rfl rfl 9 rfl mfl_X1_56 rfl rfl dX1_draw_84 ?_
  refine lv_icmp_ge (tgt := 160) hx hb dX1_draw_87 (by decide) (fun _ => ?_) (fun h9 => absurd (by decide) h9)
  exact uRv (0, u3, u4, u14, u16) B (Or.inr rfl) (uSub hP [3, 0, 1, 2, 4, 5, 6] rfl) (hD.sub [3, 0, 1, 2, 4, 5, 6] rfl rfl) hS dX1_draw_160
def qkX1_reach_110 (ph0 : Nat) (pg1 : Nat) (pg2 : Nat) (pg3 : Nat) (pg4 : Nat) (pg5 : Nat) : Int32 → (Unit) → Prop := (fun (r : Int32) (u : Unit) => r = 0)
def vkX1_reach_110 (K : Nat → ClassId) (ph0 : Nat) (pg1 : Nat) (pg2 : Nat) (pg3 : Nat) (pg4 : Nat) (pg5 : Nat) : (Unit) → va_W := (fun (u : Unit) => [(ph0, .inr (1, [.ref pg1, .ref pg2, .ref pg3, .ref pg4, .ref pg5, .int 0, .int 0]))])
set_option maxHeartbeats 4000000 in
set_option maxRecDepth 100000 in
theorem kX1_reach_110 (l : Launch) (D : va_G) (K : Nat → ClassId) (sz : Nat) (ph0 : Nat) (pg1 : Nat) (pg2 : Nat) (pg3 : Nat) (pg4 : Nat) (pg5 : Nat) : uMi l yX1_reach cX1_reach 8 (some .int) { frames := 0, cells := 0, slots := 0, locals := 0 } [.ref ph0, .int 0, .int 0] D K [(ph0, .inr (1, [.ref pg1, .ref pg2, .ref pg3, .ref pg4, .ref pg5, .int 0, .int 0]))] sz (qkX1_reach_110 ph0 pg1 pg2 pg3 pg4 pg5) (vkX1_reach_110 K ph0 pg1 pg2 pg3 pg4 pg5) := by
  refine uMet (Qc := uQi D (qkX1_reach_110 ph0 pg1 pg2 pg3 pg4 pg5) (vkX1_reach_110 K ph0 pg1 pg2 pg3 pg4 pg5)) (ret := (some .int)) (by decide) (Nat.le_of_ble_eq_true rfl) ?_
  intro p e s m below meth c A ls hAe hsz B hP hD hS hl
  have hx := B.1
  have hb := B.2.1
  have hl : lv_has ls 8 [(0, .ref ph0), (1, .int 0), (2, .int 0)] := hl
  refine lv_iload_n hx hb dX1_reach_0 rfl (lv_at hl 1 rfl) ?_
  refine lv_istore_n (lv' := [(3, .int 0), (0, .ref ph0), (1, .int 0), (2, .int 0)]) hx hb dX1_reach_1 rfl hl (by decide) rfl (fun ls hl => ?_)
  refine lv_iload_n hx hb dX1_reach_2 rfl (lv_at hl 2 rfl) ?_
  refine lv_istore (lv' := [(4, .int 0), (3, .int 0), (0, .ref ph0), (1, .int 0), (2, .int 0)]) hx hb dX1_reach_3 hl (by decide) rfl (fun ls hl => ?_)
  refine lv_iconst (v := 0) hx hb dX1_reach_5 (by decide) ?_
  refine lv_pc (q := 6) rfl ?_
  refine lv_istore (lv' := [(5, .int 0), (4, .int 0), (3, .int 0), (0, .ref ph0), (1, .int 0), (2, .int 0)]) hx hb dX1_reach_6 hl (by decide) rfl (fun ls hl => ?_)
  refine lv_iload hx hb dX1_reach_8 (lv_at hl 0 rfl) ?_
  refine lv_bipush (v := 12) hx hb dX1_reach_10 (by decide) ?_
  refine lv_icmp_ge (tgt := 76) hx hb dX1_reach_12 (by decide) (fun h9 => absurd h9 (by decide)) (fun _ => ?_)
  refine lv_iload hx hb dX1_reach_15 (lv_at hl 1 rfl) ?_
  refine lv_if_eq (tgt := 76) hx hb dX1_reach_17 (by decide) (fun _ => ?_) (fun h9 => absurd (by decide) h9)
  refine lv_pc (q := 76) rfl ?_
  refine lv_iload_n hx hb dX1_reach_76 rfl (lv_at hl 2 rfl) ?_
  exact uRi () B rfl (uSub hP [0] rfl) (hD.sub [0] rfl rfl) hS dX1_reach_77
def qkX1_isOneWith_111 (ph0 : Nat) (pg1 : Nat) (pg2 : Nat) (pg3 : Nat) (pg4 : Nat) (pg5 : Nat) : Int32 → (Unit) → Prop := (fun (r : Int32) (u : Unit) => r = 1)
def vkX1_isOneWith_111 (K : Nat → ClassId) (ph0 : Nat) (pg1 : Nat) (pg2 : Nat) (pg3 : Nat) (pg4 : Nat) (pg5 : Nat) : (Unit) → va_W := (fun (u : Unit) => [(ph0, .inr (1, [.ref pg1, .ref pg2, .ref pg3, .ref pg4, .ref pg5, .int 0, .int 0]))])
set_option maxHeartbeats 4000000 in
set_option maxRecDepth 100000 in
theorem kX1_isOneWith_111 (l : Launch) (D : va_G) (K : Nat → ClassId) (sz : Nat) (ph0 : Nat) (pg1 : Nat) (pg2 : Nat) (pg3 : Nat) (pg4 : Nat) (pg5 : Nat) : uMi l yX1_isOneWith cX1_isOneWith 3 (some .boolean) { frames := 1, cells := 0, slots := 0, locals := 27 } [.ref ph0, .int 0] D K [(ph0, .inr (1, [.ref pg1, .ref pg2, .ref pg3, .ref pg4, .ref pg5, .int 0, .int 0]))] sz (qkX1_isOneWith_111 ph0 pg1 pg2 pg3 pg4 pg5) (vkX1_isOneWith_111 K ph0 pg1 pg2 pg3 pg4 pg5) := by
  refine uMet (Qc := uQi D (qkX1_isOneWith_111 ph0 pg1 pg2 pg3 pg4 pg5) (vkX1_isOneWith_111 K ph0 pg1 pg2 pg3 pg4 pg5)) (ret := (some .boolean)) (by decide) (Nat.le_of_ble_eq_true rfl) ?_
  intro p e s m below meth c A ls hAe hsz B hP hD hS hl
  have hx := B.1
  have hb := B.2.1
  have hl : lv_has ls 3 [(0, .ref ph0), (1, .int 0)] := hl
  refine lv_aload_n hx hb dX1_isOneWith_0 rfl (lv_at hl 0 rfl) ?_
  refine uGet (ci := 1) (C := RX1) (T := TX1) (N := 7) (v := .int 0) B inlX1 hP 0 rfl rfl 5 rfl mfl_X1_18 rfl rfl dX1_isOneWith_1 ?_
  refine lv_aload_n hx hb dX1_isOneWith_4 rfl (lv_at hl 0 rfl) ?_
  refine uGet (ci := 1) (C := RX1) (T := TX1) (N := 7) (v := .int 0) B inlX1 hP 0 rfl rfl 5 rfl mfl_X1_18 rfl rfl dX1_isOneWith_5 ?_
  refine lv_ineg hx hb dX1_isOneWith_8 ?_
  refine lv_fixi (y := 0) (by decide) ?_
  refine lv_pc (q := 9) rfl ?_
  refine lv_iand hx hb dX1_isOneWith_9 ?_
  refine lv_fixi (y := 0) (by decide) ?_
  refine lv_istore_n (lv' := [(2, .int 0), (0, .ref ph0), (1, .int 0)]) hx hb dX1_isOneWith_10 rfl hl (by decide) rfl (fun ls hl => ?_)
  refine lv_aload_n hx hb dX1_isOneWith_11 rfl (lv_at hl 1 rfl) ?_
  refine uGet (ci := 1) (C := RX1) (T := TX1) (N := 7) (v := .int 0) B inlX1 hP 0 rfl rfl 5 rfl mfl_X1_18 rfl rfl dX1_isOneWith_12 ?_
  refine lv_aload_n hx hb dX1_isOneWith_15 rfl (lv_at hl 1 rfl) ?_
  refine lv_iload_n hx hb dX1_isOneWith_16 rfl (lv_at hl 0 rfl) ?_
  refine lv_pc (q := 17) rfl ?_
  refine lv_aload_n hx hb dX1_isOneWith_17 rfl (lv_at hl 1 rfl) ?_
  refine uGet (ci := 1) (C := RX1) (T := TX1) (N := 7) (v := .int 0) B inlX1 hP 0 rfl rfl 5 rfl mfl_X1_18 rfl rfl dX1_isOneWith_18 ?_
  refine lv_iload_n hx hb dX1_isOneWith_21 rfl (lv_at hl 2 rfl) ?_
  refine lv_ior hx hb dX1_isOneWith_22 ?_
  refine lv_fixi (y := 0) (by decide) ?_
  refine uVi (As := [.int 0, .int 0]) (rest := [.int 0]) (wr := []) [(ph0, .inr (1, [.ref pg1, .ref pg2, .ref pg3, .ref pg4, .ref pg5, .int 0, .int 0]))] B hl.1 hP hD hS [0] [] rfl rfl rfl (kX1_reach_110 l D K _ ph0 pg1 pg2 pg3 pg4 pg5) wd_X1_reach mml_X1_82 rfl rfl rfl rfl ⟨Nat.le_of_ble_eq_true rfl, Nat.le_of_ble_eq_true rfl⟩ (Nat.le_of_ble_eq_true rfl) ⟨Nat.le_of_ble_eq_true rfl, Nat.le_of_ble_eq_true rfl⟩ dX1_isOneWith_23 (fun r1 u H locs hw hP hD hS => ?_)
  try dsimp only at hw
  rcases hw with rfl
  have hP : va_P D vwCl [(ph0, .inr (1, [.ref pg1, .ref pg2, .ref pg3, .ref pg4, .ref pg5, .int 0, .int 0]))] H := hP
  have hD : va_D A [(ph0, .inr (1, [.ref pg1, .ref pg2, .ref pg3, .ref pg4, .ref pg5, .int 0, .int 0]))] := hD
  refine lv_iconst (v := (-1)) hx hb dX1_isOneWith_26 (by decide) ?_
  refine lv_pc (q := 27) rfl ?_
  refine lv_ixor hx hb dX1_isOneWith_27 ?_
  refine lv_fixi (y := (-1)) (by decide) ?_
  refine lv_iand hx hb dX1_isOneWith_28 ?_
  refine lv_fixi (y := 0) (by decide) ?_
  refine lv_if_ne (tgt := 36) hx hb dX1_isOneWith_29 (by decide) (fun h9 => absurd (by decide) h9) (fun _ => ?_)
  refine lv_iconst (v := 1) hx hb dX1_isOneWith_32 (by decide) ?_
  refine lv_goto (tgt := 37) hx hb dX1_isOneWith_33 (by decide) ?_
  exact uRz () B rfl rfl (uSub hP [0] rfl) (hD.sub [0] rfl rfl) hS dX1_isOneWith_37
def qkJ6_bitCount_0f7a4_112  : Int32 → (Unit) → Prop := (fun (r : Int32) (u : Unit) => r = 0)
def vkJ6_bitCount_0f7a4_112 (K : Nat → ClassId)  : (Unit) → va_W := (fun (u : Unit) => [])
set_option maxHeartbeats 4000000 in
set_option maxRecDepth 100000 in
theorem kJ6_bitCount_0f7a4_112 (l : Launch) (D : va_G) (K : Nat → ClassId) (sz : Nat)  : uMi l yJ6_bitCount_0f7a4 cJ6_bitCount_0f7a4 1 (some .int) { frames := 0, cells := 0, slots := 0, locals := 0 } [.int 0] D K [] sz (qkJ6_bitCount_0f7a4_112 ) (vkJ6_bitCount_0f7a4_112 K ) := by
  refine uMet (Qc := uQi D (qkJ6_bitCount_0f7a4_112 ) (vkJ6_bitCount_0f7a4_112 K )) (ret := (some .int)) (by decide) (Nat.le_of_ble_eq_true rfl) ?_
  intro p e s m below meth c A ls hAe hsz B hP hD hS hl
  have hx := B.1
  have hb := B.2.1
  have hl : lv_has ls 1 [(0, .int 0)] := hl
  refine lv_iload_n hx hb dJ6_bitCount_0f7a4_0 rfl (lv_at hl 0 rfl) ?_
  refine lv_iload_n hx hb dJ6_bitCount_0f7a4_1 rfl (lv_at hl 0 rfl) ?_
  refine lv_iconst (v := 1) hx hb dJ6_bitCount_0f7a4_2 (by decide) ?_
  refine lv_iushr (v := 0) hx hb dJ6_bitCount_0f7a4_3 (by decide) ?_
  refine uLdcw B mct_J6_265 dJ6_bitCount_0f7a4_4 ?_
  refine lv_pc (q := 7) rfl ?_
  refine lv_iand hx hb dJ6_bitCount_0f7a4_7 ?_
  refine lv_fixi (y := 0) (by decide) ?_
  refine lv_isub hx hb dJ6_bitCount_0f7a4_8 ?_
  refine lv_fixi (y := 0) (by decide) ?_
  refine lv_istore_n (lv' := [(0, .int 0)]) hx hb dJ6_bitCount_0f7a4_9 rfl hl (by decide) rfl (fun ls hl => ?_)
  refine lv_iload_n hx hb dJ6_bitCount_0f7a4_10 rfl (lv_at hl 0 rfl) ?_
  refine uLdcw B mct_J6_266 dJ6_bitCount_0f7a4_11 ?_
  refine lv_iand hx hb dJ6_bitCount_0f7a4_14 ?_
  refine lv_fixi (y := 0) (by decide) ?_
  refine lv_pc (q := 15) rfl ?_
  refine lv_iload_n hx hb dJ6_bitCount_0f7a4_15 rfl (lv_at hl 0 rfl) ?_
  refine lv_iconst (v := 2) hx hb dJ6_bitCount_0f7a4_16 (by decide) ?_
  refine lv_iushr (v := 0) hx hb dJ6_bitCount_0f7a4_17 (by decide) ?_
  refine uLdcw B mct_J6_266 dJ6_bitCount_0f7a4_18 ?_
  refine lv_iand hx hb dJ6_bitCount_0f7a4_21 ?_
  refine lv_fixi (y := 0) (by decide) ?_
  refine lv_iadd hx hb dJ6_bitCount_0f7a4_22 ?_
  refine lv_fixi (y := 0) (by decide) ?_
  refine lv_pc (q := 23) rfl ?_
  refine lv_istore_n (lv' := [(0, .int 0)]) hx hb dJ6_bitCount_0f7a4_23 rfl hl (by decide) rfl (fun ls hl => ?_)
  refine lv_iload_n hx hb dJ6_bitCount_0f7a4_24 rfl (lv_at hl 0 rfl) ?_
  refine lv_iload_n hx hb dJ6_bitCount_0f7a4_25 rfl (lv_at hl 0 rfl) ?_
  refine lv_iconst (v := 4) hx hb dJ6_bitCount_0f7a4_26 (by decide) ?_
  refine lv_iushr (v := 0) hx hb dJ6_bitCount_0f7a4_27 (by decide) ?_
  refine lv_iadd hx hb dJ6_bitCount_0f7a4_28 ?_
  refine lv_fixi (y := 0) (by decide) ?_
  refine lv_pc (q := 29) rfl ?_
  refine uLdcw B mct_J6_267 dJ6_bitCount_0f7a4_29 ?_
  refine lv_iand hx hb dJ6_bitCount_0f7a4_32 ?_
  refine lv_fixi (y := 0) (by decide) ?_
  refine lv_istore_n (lv' := [(0, .int 0)]) hx hb dJ6_bitCount_0f7a4_33 rfl hl (by decide) rfl (fun ls hl => ?_)
  refine lv_iload_n hx hb dJ6_bitCount_0f7a4_34 rfl (lv_at hl 0 rfl) ?_
  refine lv_iload_n hx hb dJ6_bitCount_0f7a4_35 rfl (lv_at hl 0 rfl) ?_
  refine lv_bipush (v := 8) hx hb dJ6_bitCount_0f7a4_36 (by decide) ?_
  refine lv_pc (q := 38) rfl ?_
  refine lv_iushr (v := 0) hx hb dJ6_bitCount_0f7a4_38 (by decide) ?_
  refine lv_iadd hx hb dJ6_bitCount_0f7a4_39 ?_
  refine lv_fixi (y := 0) (by decide) ?_
  refine lv_istore_n (lv' := [(0, .int 0)]) hx hb dJ6_bitCount_0f7a4_40 rfl hl (by decide) rfl (fun ls hl => ?_)
  refine lv_iload_n hx hb dJ6_bitCount_0f7a4_41 rfl (lv_at hl 0 rfl) ?_
  refine lv_iload_n hx hb dJ6_bitCount_0f7a4_42 rfl (lv_at hl 0 rfl) ?_
  refine lv_bipush (v := 16) hx hb dJ6_bitCount_0f7a4_43 (by decide) ?_
  refine lv_pc (q := 45) rfl ?_
  refine lv_iushr (v := 0) hx hb dJ6_bitCount_0f7a4_45 (by decide) ?_
  refine lv_iadd hx hb dJ6_bitCount_0f7a4_46 ?_
  refine lv_fixi (y := 0) (by decide) ?_
  refine lv_istore_n (lv' := [(0, .int 0)]) hx hb dJ6_bitCount_0f7a4_47 rfl hl (by decide) rfl (fun ls hl => ?_)
  refine lv_iload_n hx hb dJ6_bitCount_0f7a4_48 rfl (lv_at hl 0 rfl) ?_
  refine lv_bipush (v := 63) hx hb dJ6_bitCount_0f7a4_49 (by decide) ?_
  refine lv_iand hx hb dJ6_bitCount_0f7a4_51 ?_
  refine lv_fixi (y := 0) (by decide) ?_
  refine lv_pc (q := 52) rfl ?_
  exact uRi () B rfl (uSub hP [] rfl) (hD.sub [] rfl rfl) hS dJ6_bitCount_0f7a4_52

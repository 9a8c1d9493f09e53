def qwX2_bit (x0 : Int32) : Int32 → (Unit) → Prop := (fun (r : Int32) (u : Unit) => True)
def vwX2_bit (K : Nat → ClassId) (x0 : Int32) : (Unit) → va_W := (fun (u : Unit) => [])
set_option maxHeartbeats 4000000 in
set_option maxRecDepth 100000 in
theorem wX2_bit (l : Launch) (D : va_G) (K : Nat → ClassId) (sz : Nat) (x0 : Int32) : uMi l yX2_bit cX2_bit 1 (some .int) { frames := 0, cells := 0, slots := 0, locals := 0 } [.int x0] D K [] sz (qwX2_bit x0) (vwX2_bit K x0) := by
  refine uMet (Qc := uQi D (qwX2_bit x0) (vwX2_bit K x0)) (ret := (some .int)) (by decide) (Nat.le_of_ble_eq_true rfl) ?_
  intro p e s m below meth c A ls hAe hsz B hP hD hS hl
  have hx := B.1
  have hb := B.2.1
  have hl : lv_has ls 1 [(0, .int x0)] := hl
  refine lv_iload_n hx hb dX2_bit_0 rfl (lv_at hl 0 rfl) ?_
  refine lv_if_ge (tgt := 8) hx hb dX2_bit_1 (by decide) (fun c1 => ?_) (fun c1 => ?_)
  · refine lv_iconst (v := 1) hx hb dX2_bit_8 (by decide) ?_
    refine lv_iload_n hx hb dX2_bit_9 rfl (lv_at hl 0 rfl) ?_
    refine lv_ishl hx hb dX2_bit_10 ?_
    refine lv_pc (q := 11) rfl ?_
    exact uRi () B trivial (uSub hP [] rfl) (hD.sub [] rfl rfl) hS dX2_bit_11
  refine lv_iconst (v := 0) hx hb dX2_bit_4 (by decide) ?_
  refine lv_goto (tgt := 11) hx hb dX2_bit_5 (by decide) ?_
  exact uRi () B trivial (uSub hP [] rfl) (hD.sub [] rfl rfl) hS dX2_bit_11
def qwX2_hearing (a_M : Nat) (v_M_given : Int32) (v_M_spent : Int32) (a_M_hearings : Nat) (f_M_hearings : Nat → Option Nat) (a_M_h0 : Nat) (f_M_h0 : Nat → Int32) (a_M_h1 : Nat) (f_M_h1 : Nat → Int32) (a_M_h2 : Nat) (f_M_h2 : Nat → Int32) (a_M_h3 : Nat) (f_M_h3 : Nat → Int32) (a_L : Nat) (a_RA : Nat) (a_M_tallies : Nat) (a_M_ordersDone : Nat) (a_M_busyTill : Nat) (a_M_deafFrom : Nat) (a_M_seenMinutes : Nat) (a_M_seenFrom : Nat) (a_M_seenBy : Nat) (a_M_seenWords : Nat) (a_M_turns : Nat) (x0 : Nat) (x1 : Nat) (x2 : Int32) : Int32 → (Unit) → Prop := (fun (r : Int32) (u : Unit) => True)
def vwX2_hearing (K : Nat → ClassId) (a_M : Nat) (v_M_given : Int32) (v_M_spent : Int32) (a_M_hearings : Nat) (f_M_hearings : Nat → Option Nat) (a_M_h0 : Nat) (f_M_h0 : Nat → Int32) (a_M_h1 : Nat) (f_M_h1 : Nat → Int32) (a_M_h2 : Nat) (f_M_h2 : Nat → Int32) (a_M_h3 : Nat) (f_M_h3 : Nat → Int32) (a_L : Nat) (a_RA : Nat) (a_M_tallies : Nat) (a_M_ordersDone : Nat) (a_M_busyTill : Nat) (a_M_deafFrom : Nat) (a_M_seenMinutes : Nat) (a_M_seenFrom : Nat) (a_M_seenBy : Nat) (a_M_seenWords : Nat) (a_M_turns : Nat) (x0 : Nat) (x1 : Nat) (x2 : Int32) : (Unit) → va_W := (fun (u : Unit) => [(a_M, .inr (2, [.ref a_L, .ref a_RA, .int v_M_given, .int v_M_spent, .ref a_M_tallies, .ref a_M_hearings, .ref a_M_ordersDone, .ref a_M_busyTill, .ref a_M_deafFrom, .ref a_M_seenMinutes, .ref a_M_seenFrom, .ref a_M_seenBy, .ref a_M_seenWords, .ref a_M_turns])), (a_M_hearings, .inl (K 3, 4, .inr (.inr (.inr (.inr f_M_hearings))))), (a_M_h0, .inl (K 0, 120, .inl f_M_h0)), (a_M_h1, .inl (K 0, 120, .inl f_M_h1)), (a_M_h2, .inl (K 0, 120, .inl f_M_h2)), (a_M_h3, .inl (K 0, 120, .inl f_M_h3))])
set_option maxHeartbeats 4000000 in
set_option maxRecDepth 100000 in
theorem wX2_hearing (l : Launch) (D : va_G) (K : Nat → ClassId) (sz : Nat) (a_M : Nat) (v_M_given : Int32) (v_M_spent : Int32) (a_M_hearings : Nat) (f_M_hearings : Nat → Option Nat) (a_M_h0 : Nat) (f_M_h0 : Nat → Int32) (a_M_h1 : Nat) (f_M_h1 : Nat → Int32) (a_M_h2 : Nat) (f_M_h2 : Nat → Int32) (a_M_h3 : Nat) (f_M_h3 : Nat → Int32) (a_L : Nat) (a_RA : Nat) (a_M_tallies : Nat) (a_M_ordersDone : Nat) (a_M_busyTill : Nat) (a_M_deafFrom : Nat) (a_M_seenMinutes : Nat) (a_M_seenFrom : Nat) (a_M_seenBy : Nat) (a_M_seenWords : Nat) (a_M_turns : Nat) (x0 : Nat) (x1 : Nat) (x2 : Int32) (hv_M_given : v_M_given = 0 ∨ v_M_given = 1) (hv_M_spent : v_M_spent = 0 ∨ v_M_spent = 1) (k_M_hearings_0 : f_M_hearings 0 = some a_M_h0) (k_M_hearings_1 : f_M_hearings 1 = some a_M_h1) (k_M_hearings_2 : f_M_hearings 2 = some a_M_h2) (k_M_hearings_3 : f_M_hearings 3 = some a_M_h3) (hx0 : x0 < 12) (hx1 : x1 < 10) : uMi l yX2_hearing cX2_hearing 5 (some .int) { frames := 1, cells := 0, slots := 0, locals := 20 } [.ref a_M, .int (nI x0), .int (nI x1), .int x2] D K [(a_M, .inr (2, [.ref a_L, .ref a_RA, .int v_M_given, .int v_M_spent, .ref a_M_tallies, .ref a_M_hearings, .ref a_M_ordersDone, .ref a_M_busyTill, .ref a_M_deafFrom, .ref a_M_seenMinutes, .ref a_M_seenFrom, .ref a_M_seenBy, .ref a_M_seenWords, .ref a_M_turns])), (a_M_hearings, .inl (K 3, 4, .inr (.inr (.inr (.inr f_M_hearings))))), (a_M_h0, .inl (K 0, 120, .inl f_M_h0)), (a_M_h1, .inl (K 0, 120, .inl f_M_h1)), (a_M_h2, .inl (K 0, 120, .inl f_M_h2)), (a_M_h3, .inl (K 0, 120, .inl f_M_h3))] sz (qwX2_hearing a_M v_M_given v_M_spent a_M_hearings f_M_hearings a_M_h0 f_M_h0 a_M_h1 f_M_h1 a_M_h2 f_M_h2 a_M_h3 f_M_h3 a_L a_RA a_M_tallies a_M_ordersDone a_M_busyTill a_M_deafFrom a_M_seenMinutes a_M_seenFrom a_M_seenBy a_M_seenWords a_M_turns x0 x1 x2) (vwX2_hearing K a_M v_M_given v_M_spent a_M_hearings f_M_hearings a_M_h0 f_M_h0 a_M_h1 f_M_h1 a_M_h2 f_M_h2 a_M_h3 f_M_h3 a_L a_RA a_M_tallies a_M_ordersDone a_M_busyTill a_M_deafFrom a_M_seenMinutes a_M_seenFrom a_M_seenBy a_M_seenWords a_M_turns x0 x1 x2) := by
  refine uMet (Qc := uQi D (qwX2_hearing a_M v_M_given v_M_spent a_M_hearings f_M_hearings a_M_h0 f_M_h0 a_M_h1 f_M_h1 a_M_h2 f_M_h2 a_M_h3 f_M_h3 a_L a_RA a_M_tallies a_M_ordersDone a_M_busyTill a_M_deafFrom a_M_seenMinutes a_M_seenFrom a_M_seenBy a_M_seenWords a_M_turns x0 x1 x2) (vwX2_hearing K a_M v_M_given v_M_spent a_M_hearings f_M_hearings a_M_h0 f_M_h0 a_M_h1 f_M_h1 a_M_h2 f_M_h2 a_M_h3 f_M_h3 a_L a_RA a_M_tallies a_M_ordersDone a_M_busyTill a_M_deafFrom a_M_seenMinutes a_M_seenFrom a_M_seenBy a_M_seenWords a_M_turns x0 x1 x2)) (ret := (some .int)) (by decide) (Nat.le_of_ble_eq_true rfl) ?_
  intro p e s m below meth c A ls hAe hsz B hP hD hS hl
  have hx := B.1
  have hb := B.2.1
  have hl : lv_has ls 5 [(0, .ref a_M), (1, .int (nI x0)), (2, .int (nI x1)), (3, .int x2)] := hl
  refine lv_iload_n hx hb dX2_hearing_0 rfl (lv_at hl 1 rfl) ?_
  refine lv_bipush (v := 10) hx hb dX2_hearing_1 (by decide) ?_
  refine lv_imul hx hb dX2_hearing_3 ?_
  refine lv_fixi (y := (nI (x0 * 10))) (by rw [show (10 : Int32) = nI 10 from rfl, pk_mul]) ?_
  refine lv_iload_n hx hb dX2_hearing_4 rfl (lv_at hl 2 rfl) ?_
  refine lv_iadd hx hb dX2_hearing_5 ?_
  refine lv_fixi (y := (nI ((x0 * 10) + x1))) (by rw [nI_add]) ?_
  refine lv_pc (q := 6) rfl ?_
  refine lv_istore (lv' := [(4, .int (nI ((x0 * 10) + x1))), (0, .ref a_M), (1, .int (nI x0)), (2, .int (nI x1)), (3, .int x2)]) hx hb dX2_hearing_6 hl (by decide) rfl (fun ls hl => ?_)
  refine lv_iload_n hx hb dX2_hearing_8 rfl (lv_at hl 4 rfl) ?_
  refine lv_if_lt (tgt := 30) hx hb dX2_hearing_9 (by decide) (fun c1 => ?_) (fun c1 => ?_)
  · refine lv_iconst (v := (-1)) hx hb dX2_hearing_30 (by decide) ?_
    exact uRi () B trivial (uSub hP [0, 1, 2, 3, 4, 5] rfl) (hD.sub [0, 1, 2, 3, 4, 5] rfl rfl) hS dX2_hearing_31
  refine lv_iload_n hx hb dX2_hearing_12 rfl (lv_at hl 4 rfl) ?_
  refine lv_iconst (v := 3) hx hb dX2_hearing_13 (by decide) ?_
  refine lv_icmp_gt (tgt := 30) hx hb dX2_hearing_14 (by decide) (fun c2 => ?_) (fun c2 => ?_)
  · refine lv_pc (q := 30) rfl ?_
    refine lv_iconst (v := (-1)) hx hb dX2_hearing_30 (by decide) ?_
    exact uRi () B trivial (uSub hP [0, 1, 2, 3, 4, 5] rfl) (hD.sub [0, 1, 2, 3, 4, 5] rfl rfl) hS dX2_hearing_31
  refine lv_pc (q := 17) rfl ?_
  refine lv_aload_n hx hb dX2_hearing_17 rfl (lv_at hl 1 rfl) ?_
  refine uGet (ci := 2) (C := RX2) (T := TX2) (N := 14) (v := .ref a_M_hearings) B inlX2 hP 0 rfl rfl 5 rfl mfl_X2_24 rfl rfl dX2_hearing_18 ?_
  refine lv_iconst (v := 0) hx hb dX2_hearing_21 (by decide) ?_
  refine uAald (i := 0) (j := 0) B hP 1 rfl (by decide) rfl k_M_hearings_0 dX2_hearing_22 ?_
  refine lv_iload hx hb dX2_hearing_23 (lv_at hl 0 rfl) ?_
  refine uIald (i := (nI ((x0 * 10) + x1))) (j := (x0 * 10) + x1) B hP 2 rfl (nI_in (by omega) (by omega)) (nI_clamp (by omega)) dX2_hearing_25 ?_
  refine lv_pc (q := 26) rfl ?_
  refine lv_iconst (v := (-1)) hx hb dX2_hearing_26 (by decide) ?_
  refine lv_icmp_ne (tgt := 32) hx hb dX2_hearing_27 (by decide) (fun c3 => ?_) (fun c3 => ?_)
  · obtain ⟨a4, ha4, ea4⟩ := uNatB (x := x2) (lo := 0) (hi := 3) (by simp only [fa_lt, fa_le, fa_eq, Int32.reduceToInt] at c1 c2; omega) (by simp only [fa_lt, fa_le, fa_eq, Int32.reduceToInt] at c1 c2; omega) (by decide)
    refine lv_iload_n hx hb dX2_hearing_32 rfl (lv_at hl 4 rfl) ?_
    refine lv_fixi (y := (nI a4)) ea4 ?_
    refine lv_iconst (v := 3) hx hb dX2_hearing_33 (by decide) ?_
    refine lv_icmp_ne (tgt := 52) hx hb dX2_hearing_34 (by decide) (fun c5 => ?_) (fun c5 => ?_)
    · have k_5 : ¬ a4 = 3 := fun h9 => c5 ((nI_eq (a := a4) (b := 3) (by omega) (by omega)).mpr h9)
      refine lv_aload_n hx hb dX2_hearing_52 rfl (lv_at hl 1 rfl) ?_
      refine lv_pc (q := 53) rfl ?_
      refine uGet (ci := 2) (C := RX2) (T := TX2) (N := 14) (v := .ref a_M_hearings) B inlX2 hP 0 rfl rfl 5 rfl mfl_X2_24 rfl rfl dX2_hearing_53 ?_
      refine lv_iload_n hx hb dX2_hearing_56 rfl (lv_at hl 4 rfl) ?_
      refine lv_fixi (y := (nI a4)) ea4 ?_
      have hs9 : a4 = 0 ∨ a4 = 1 ∨ a4 = 2 ∨ a4 = 3 := by omega
      rcases hs9 with hs9 | hs9 | hs9 | hs9
      · refine uAald (i := (nI a4)) (j := 0) B hP 1 rfl (nI_in (by omega) (by omega)) (by rw [nI_clamp (by omega)]; exact hs9) k_M_hearings_0 dX2_hearing_57 ?_
        refine lv_iload hx hb dX2_hearing_58 (lv_at hl 0 rfl) ?_
        refine uIald (i := (nI ((x0 * 10) + x1))) (j := (x0 * 10) + x1) B hP 2 rfl (nI_in (by omega) (by omega)) (nI_clamp (by omega)) dX2_hearing_60 ?_
        exact uRi () B trivial (uSub hP [0, 1, 2, 3, 4, 5] rfl) (hD.sub [0, 1, 2, 3, 4, 5] rfl rfl) hS dX2_hearing_61
      · refine uAald (i := (nI a4)) (j := 1) B hP 1 rfl (nI_in (by omega) (by omega)) (by rw [nI_clamp (by omega)]; exact hs9) k_M_hearings_1 dX2_hearing_57 ?_
        refine lv_iload hx hb dX2_hearing_58 (lv_at hl 0 rfl) ?_
        refine uIald (i := (nI ((x0 * 10) + x1))) (j := (x0 * 10) + x1) B hP 3 rfl (nI_in (by omega) (by omega)) (nI_clamp (by omega)) dX2_hearing_60 ?_
        exact uRi () B trivial (uSub hP [0, 1, 2, 3, 4, 5] rfl) (hD.sub [0, 1, 2, 3, 4, 5] rfl rfl) hS dX2_hearing_61
      · refine uAald (i := (nI a4)) (j := 2) B hP 1 rfl (nI_in (by omega) (by omega)) (by rw [nI_clamp (by omega)]; exact hs9) k_M_hearings_2 dX2_hearing_57 ?_
        refine lv_iload hx hb dX2_hearing_58 (lv_at hl 0 rfl) ?_
        refine uIald (i := (nI ((x0 * 10) + x1))) (j := (x0 * 10) + x1) B hP 4 rfl (nI_in (by omega) (by omega)) (nI_clamp (by omega)) dX2_hearing_60 ?_
        exact uRi () B trivial (uSub hP [0, 1, 2, 3, 4, 5] rfl) (hD.sub [0, 1, 2, 3, 4, 5] rfl rfl) hS dX2_hearing_61
      refine uAald (i := (nI a4)) (j := 3) B hP 1 rfl (nI_in (by omega) (by omega)) (by rw [nI_clamp (by omega)]; exact hs9) k_M_hearings_3 dX2_hearing_57 ?_
      refine lv_iload hx hb dX2_hearing_58 (lv_at hl 0 rfl) ?_
      refine uIald (i := (nI ((x0 * 10) + x1))) (j := (x0 * 10) + x1) B hP 5 rfl (nI_in (by omega) (by omega)) (nI_clamp (by omega)) dX2_hearing_60 ?_
      exact uRi () B trivial (uSub hP [0, 1, 2, 3, 4, 5] rfl) (hD.sub [0, 1, 2, 3, 4, 5] rfl rfl) hS dX2_hearing_61
    have k_5 : a4 = 3 := (nI_eq (a := a4) (b := 3) (by omega) (by omega)).mp c5
    refine lv_aload_n hx hb dX2_hearing_37 rfl (lv_at hl 1 rfl) ?_
    refine lv_pc (q := 38) rfl ?_
    refine uGet (ci := 2) (C := RX2) (T := TX2) (N := 14) (v := .ref a_M_hearings) B inlX2 hP 0 rfl rfl 5 rfl mfl_X2_24 rfl rfl dX2_hearing_38 ?_
    refine lv_iconst (v := 3) hx hb dX2_hearing_41 (by decide) ?_
    refine uAald (i := 3) (j := 3) B hP 1 rfl (by decide) rfl k_M_hearings_3 dX2_hearing_42 ?_
    refine lv_iload hx hb dX2_hearing_43 (lv_at hl 0 rfl) ?_
    refine uIald (i := (nI ((x0 * 10) + x1))) (j := (x0 * 10) + x1) B hP 5 rfl (nI_in (by omega) (by omega)) (nI_clamp (by omega)) dX2_hearing_45 ?_
    refine uSi (As := [.int (f_M_h3 ((x0 * 10) + x1))]) (rest := []) (wr := [(a_M, .inr (2, [.ref a_L, .ref a_RA, .int v_M_given, .int v_M_spent, .ref a_M_tallies, .ref a_M_hearings, .ref a_M_ordersDone, .ref a_M_busyTill, .ref a_M_deafFrom, .ref a_M_seenMinutes, .ref a_M_seenFrom, .ref a_M_seenBy, .ref a_M_seenWords, .ref a_M_turns])), (a_M_hearings, .inl (K 3, 4, .inr (.inr (.inr (.inr f_M_hearings))))), (a_M_h0, .inl (K 0, 120, .inl f_M_h0)), (a_M_h1, .inl (K 0, 120, .inl f_M_h1)), (a_M_h2, .inl (K 0, 120, .inl f_M_h2)), (a_M_h3, .inl (K 0, 120, .inl f_M_h3))]) [] B hl.1 hP hD hS [] [0, 1, 2, 3, 4, 5] rfl rfl rfl (wJ6_bitCount_0f7a4 l D K _ (f_M_h3 ((x0 * 10) + x1))) wd_J6_bitCount_0f7a4 mml_X2_101 rfl rfl ⟨Nat.le_of_ble_eq_true rfl, Nat.le_of_ble_eq_true rfl⟩ (Nat.le_of_ble_eq_true rfl) ⟨Nat.le_of_ble_eq_true rfl, Nat.le_of_ble_eq_true rfl⟩ dX2_hearing_46 (fun r6 u H locs hw hP hD hS => ?_)
    try dsimp only at hw
    have hP : va_P D vwCl [(a_M, .inr (2, [.ref a_L, .ref a_RA, .int v_M_given, .int v_M_spent, .ref a_M_tallies, .ref a_M_hearings, .ref a_M_ordersDone, .ref a_M_busyTill, .ref a_M_deafFrom, .ref a_M_seenMinutes, .ref a_M_seenFrom, .ref a_M_seenBy, .ref a_M_seenWords, .ref a_M_turns])), (a_M_hearings, .inl (K 3, 4, .inr (.inr (.inr (.inr f_M_hearings))))), (a_M_h0, .inl (K 0, 120, .inl f_M_h0)), (a_M_h1, .inl (K 0, 120, .inl f_M_h1)), (a_M_h2, .inl (K 0, 120, .inl f_M_h2)), (a_M_h3, .inl (K 0, 120, .inl f_M_h3))] H := hP
    have hD := uDPJ hP hD
    refine lv_pc (q := 49) rfl ?_
    refine lv_goto (tgt := 61) hx hb dX2_hearing_49 (by decide) ?_
    exact uRi () B trivial (uSub hP [0, 1, 2, 3, 4, 5] rfl) (hD.sub [0, 1, 2, 3, 4, 5] rfl rfl) hS dX2_hearing_61
  refine lv_iconst (v := (-1)) hx hb dX2_hearing_30 (by decide) ?_
  exact uRi () B trivial (uSub hP [0, 1, 2, 3, 4, 5] rfl) (hD.sub [0, 1, 2, 3, 4, 5] rfl rfl) hS dX2_hearing_31
def qwX2_queue (a_M : Nat) (v_M_given : Int32) (v_M_spent : Int32) (a_M_tallies : Nat) (f_M_tallies : Nat → Int32) (a_M_seenMinutes : Nat) (f_M_seenMinutes : Nat → Int32) (a_M_seenFrom : Nat) (f_M_seenFrom : Nat → Int32) (a_M_seenBy : Nat) (f_M_seenBy : Nat → Int32) (a_M_seenWords : Nat) (f_M_seenWords : Nat → Int32) (a_M_turns : Nat) (f_M_turns : Nat → Int32) (a_L : Nat) (a_RA : Nat) (a_M_hearings : Nat) (a_M_ordersDone : Nat) (a_M_busyTill : Nat) (a_M_deafFrom : Nat) (x0 : Nat) (x1 : Nat) (x2 : Nat) (x3 : Int32) : (Int32 × (Nat → Int32) × (Nat → Int32) × (Nat → Int32) × (Nat → Int32) × (Nat → Int32) × (Nat → Int32)) → Prop := (fun (u : Int32 × (Nat → Int32) × (Nat → Int32) × (Nat → Int32) × (Nat → Int32) × (Nat → Int32) × (Nat → Int32)) => (u.1 = 0 ∨ u.1 = 1) ∧ (uRg u.2.2.2.1 0 11) ∧ (uRg u.2.2.2.2.1 0 11) ∧ (uRg u.2.2.2.2.2.1 0 9) ∧ (uRg u.2.2.2.2.2.2 0 199) ∧ (uT0 u.2.1))
def vwX2_queue (K : Nat → ClassId) (a_M : Nat) (v_M_given : Int32) (v_M_spent : Int32) (a_M_tallies : Nat) (f_M_tallies : Nat → Int32) (a_M_seenMinutes : Nat) (f_M_seenMinutes : Nat → Int32) (a_M_seenFrom : Nat) (f_M_seenFrom : Nat → Int32) (a_M_seenBy : Nat) (f_M_seenBy : Nat → Int32) (a_M_seenWords : Nat) (f_M_seenWords : Nat → Int32) (a_M_turns : Nat) (f_M_turns : Nat → Int32) (a_L : Nat) (a_RA : Nat) (a_M_hearings : Nat) (a_M_ordersDone : Nat) (a_M_busyTill : Nat) (a_M_deafFrom : Nat) (x0 : Nat) (x1 : Nat) (x2 : Nat) (x3 : Int32) : (Int32 × (Nat → Int32) × (Nat → Int32) × (Nat → Int32) × (Nat → Int32) × (Nat → Int32) × (Nat → Int32)) → va_W := (fun (u : Int32 × (Nat → Int32) × (Nat → Int32) × (Nat → Int32) × (Nat → Int32) × (Nat → Int32) × (Nat → Int32)) => [(a_M, .inr (2, [.ref a_L, .ref a_RA, .int v_M_given, .int u.1, .ref a_M_tallies, .ref a_M_hearings, .ref a_M_ordersDone, .ref a_M_busyTill, .ref a_M_deafFrom, .ref a_M_seenMinutes, .ref a_M_seenFrom, .ref a_M_seenBy, .ref a_M_seenWords, .ref a_M_turns])), (a_M_tallies, .inl (K 0, 5, .inl (u.2.1))), (a_M_seenMinutes, .inl (K 0, 200, .inl (u.2.2.1))), (a_M_seenFrom, .inl (K 0, 200, .inl (u.2.2.2.1))), (a_M_seenBy, .inl (K 0, 200, .inl (u.2.2.2.2.1))), (a_M_seenWords, .inl (K 0, 200, .inl (u.2.2.2.2.2.1))), (a_M_turns, .inl (K 0, 200, .inl (u.2.2.2.2.2.2)))])
set_option maxHeartbeats 4000000 in
set_option maxRecDepth 100000 in
theorem wX2_queue (l : Launch) (D : va_G) (K : Nat → ClassId) (sz : Nat) (a_M : Nat) (v_M_given : Int32) (v_M_spent : Int32) (a_M_tallies : Nat) (f_M_tallies : Nat → Int32) (a_M_seenMinutes : Nat) (f_M_seenMinutes : Nat → Int32) (a_M_seenFrom : Nat) (f_M_seenFrom : Nat → Int32) (a_M_seenBy : Nat) (f_M_seenBy : Nat → Int32) (a_M_seenWords : Nat) (f_M_seenWords : Nat → Int32) (a_M_turns : Nat) (f_M_turns : Nat → Int32) (a_L : Nat) (a_RA : Nat) (a_M_hearings : Nat) (a_M_ordersDone : Nat) (a_M_busyTill : Nat) (a_M_deafFrom : Nat) (x0 : Nat) (x1 : Nat) (x2 : Nat) (x3 : Int32) (hv_M_given : v_M_given = 0 ∨ v_M_given = 1) (hv_M_spent : v_M_spent = 0 ∨ v_M_spent = 1) (r_M_seenFrom : uRg f_M_seenFrom 0 11) (r_M_seenBy : uRg f_M_seenBy 0 11) (r_M_seenWords : uRg f_M_seenWords 0 9) (r_M_turns : uRg f_M_turns 0 199) (hx0 : x0 < 12) (hx1 : x1 < 12) (hx2 : x2 < 10) (i_uT0 : uT0 f_M_tallies) : uMv l yX2_queue cX2_queue 7 { frames := 0, cells := 0, slots := 0, locals := 0 } [.ref a_M, .int (nI x0), .int (nI x1), .int (nI x2), .int x3] D K [(a_M, .inr (2, [.ref a_L, .ref a_RA, .int v_M_given, .int v_M_spent, .ref a_M_tallies, .ref a_M_hearings, .ref a_M_ordersDone, .ref a_M_busyTill, .ref a_M_deafFrom, .ref a_M_seenMinutes, .ref a_M_seenFrom, .ref a_M_seenBy, .ref a_M_seenWords, .ref a_M_turns])), (a_M_tallies, .inl (K 0, 5, .inl f_M_tallies)), (a_M_seenMinutes, .inl (K 0, 200, .inl f_M_seenMinutes)), (a_M_seenFrom, .inl (K 0, 200, .inl f_M_seenFrom)), (a_M_seenBy, .inl (K 0, 200, .inl f_M_seenBy)), (a_M_seenWords, .inl (K 0, 200, .inl f_M_seenWords)), (a_M_turns, .inl (K 0, 200, .inl f_M_turns))] sz (qwX2_queue a_M v_M_given v_M_spent a_M_tallies f_M_tallies a_M_seenMinutes f_M_seenMinutes a_M_seenFrom f_M_seenFrom a_M_seenBy f_M_seenBy a_M_seenWords f_M_seenWords a_M_turns f_M_turns a_L a_RA a_M_hearings a_M_ordersDone a_M_busyTill a_M_deafFrom x0 x1 x2 x3) (vwX2_queue K a_M v_M_given v_M_spent a_M_tallies f_M_tallies a_M_seenMinutes f_M_seenMinutes a_M_seenFrom f_M_seenFrom a_M_seenBy f_M_seenBy a_M_seenWords f_M_seenWords a_M_turns f_M_turns a_L a_RA a_M_hearings a_M_ordersDone a_M_busyTill a_M_deafFrom x0 x1 x2 x3) := by
  refine uMet (Qc := uQv D (qwX2_queue a_M v_M_given v_M_spent a_M_tallies f_M_tallies a_M_seenMinutes f_M_seenMinutes a_M_seenFrom f_M_seenFrom a_M_seenBy f_M_seenBy a_M_seenWords f_M_seenWords a_M_turns f_M_turns a_L a_RA a_M_hearings a_M_ordersDone a_M_busyTill a_M_deafFrom x0 x1 x2 x3) (vwX2_queue K a_M v_M_given v_M_spent a_M_tallies f_M_tallies a_M_seenMinutes f_M_seenMinutes a_M_seenFrom f_M_seenFrom a_M_seenBy f_M_seenBy a_M_seenWords f_M_seenWords a_M_turns f_M_turns a_L a_RA a_M_hearings a_M_ordersDone a_M_busyTill a_M_deafFrom x0 x1 x2 x3)) (ret := none) (by decide) (Nat.le_of_ble_eq_true rfl) ?_
  intro p e s m below meth c A ls hAe hsz B hP hD hS hl
  have hx := B.1
  have hb := B.2.1
  have hl : lv_has ls 7 [(0, .ref a_M), (1, .int (nI x0)), (2, .int (nI x1)), (3, .int (nI x2)), (4, .int x3)] := hl
  refine lv_aload_n hx hb dX2_queue_0 rfl (lv_at hl 0 rfl) ?_
  refine uGet (ci := 2) (C := RX2) (T := TX2) (N := 14) (v := .ref a_M_tallies) B inlX2 hP 0 rfl rfl 4 rfl mfl_X2_18 rfl rfl dX2_queue_1 ?_
  refine lv_iconst (v := 0) hx hb dX2_queue_4 (by decide) ?_
  refine uIald (i := 0) (j := 0) B hP 1 rfl (by decide) rfl dX2_queue_5 ?_
  obtain ⟨a1, ha1, ea1⟩ := uT0n i_uT0
  refine lv_fixi (y := (nI a1)) ea1 ?_
  refine lv_istore (lv' := [(5, .int (nI a1)), (0, .ref a_M), (1, .int (nI x0)), (2, .int (nI x1)), (3, .int (nI x2)), (4, .int x3)]) hx hb dX2_queue_6 hl (by decide) rfl (fun ls hl => ?_)
  refine lv_pc (q := 8) rfl ?_
  refine lv_iload hx hb dX2_queue_8 (lv_at hl 0 rfl) ?_
  refine lv_sipush (v := 200) hx hb dX2_queue_10 (by decide) ?_
  refine lv_icmp_lt (tgt := 22) hx hb dX2_queue_13 (by decide) (fun c2 => ?_) (fun c2 => ?_)
  · have k_2 : a1 < 200 := (nI_ltI (a := a1) (b := 200) (by omega) (by omega)).mp c2
    refine lv_aload_n hx hb dX2_queue_22 rfl (lv_at hl 1 rfl) ?_
    refine uGet (ci := 2) (C := RX2) (T := TX2) (N := 14) (v := .ref a_M_seenFrom) B inlX2 hP 0 rfl rfl 10 rfl mfl_X2_39 rfl rfl dX2_queue_23 ?_
    refine lv_iload hx hb dX2_queue_26 (lv_at hl 0 rfl) ?_
    refine lv_pc (q := 28) rfl ?_
    refine lv_iload_n hx hb dX2_queue_28 rfl (lv_at hl 2 rfl) ?_
    refine uIast (i := (nI a1)) (j := a1) (ws' := [(a_M, .inr (2, [.ref a_L, .ref a_RA, .int v_M_given, .int v_M_spent, .ref a_M_tallies, .ref a_M_hearings, .ref a_M_ordersDone, .ref a_M_busyTill, .ref a_M_deafFrom, .ref a_M_seenMinutes, .ref a_M_seenFrom, .ref a_M_seenBy, .ref a_M_seenWords, .ref a_M_turns])), (a_M_tallies, .inl (K 0, 5, .inl f_M_tallies)), (a_M_seenMinutes, .inl (K 0, 200, .inl f_M_seenMinutes)), (a_M_seenFrom, .inl (K 0, 200, .inl (upd f_M_seenFrom a1 (nI x0)))), (a_M_seenBy, .inl (K 0, 200, .inl f_M_seenBy)), (a_M_seenWords, .inl (K 0, 200, .inl f_M_seenWords)), (a_M_turns, .inl (K 0, 200, .inl f_M_turns))]) B hP hD hS 3 rfl (nI_in (by omega) (by omega)) (nI_clamp (by omega)) rfl dX2_queue_29 (fun H locs hP hD hS => ?_)
    have s4 : uRg (upd f_M_seenFrom a1 (nI x0)) 0 11 := (uRup r_M_seenFrom (uLoN (by simp only [Int32.reduceToInt]; omega) (by omega)) (uHiN (by simp only [Int32.reduceToInt]; omega) (by omega)))
    refine lv_aload_n hx hb dX2_queue_30 rfl (lv_at hl 1 rfl) ?_
    refine uGet (ci := 2) (C := RX2) (T := TX2) (N := 14) (v := .ref a_M_seenBy) B inlX2 hP 0 rfl rfl 11 rfl mfl_X2_42 rfl rfl dX2_queue_31 ?_
    refine lv_iload hx hb dX2_queue_34 (lv_at hl 0 rfl) ?_
    refine lv_iload_n hx hb dX2_queue_36 rfl (lv_at hl 3 rfl) ?_
    refine lv_pc (q := 37) rfl ?_
    refine uIast (i := (nI a1)) (j := a1) (ws' := [(a_M, .inr (2, [.ref a_L, .ref a_RA, .int v_M_given, .int v_M_spent, .ref a_M_tallies, .ref a_M_hearings, .ref a_M_ordersDone, .ref a_M_busyTill, .ref a_M_deafFrom, .ref a_M_seenMinutes, .ref a_M_seenFrom, .ref a_M_seenBy, .ref a_M_seenWords, .ref a_M_turns])), (a_M_tallies, .inl (K 0, 5, .inl f_M_tallies)), (a_M_seenMinutes, .inl (K 0, 200, .inl f_M_seenMinutes)), (a_M_seenFrom, .inl (K 0, 200, .inl (upd f_M_seenFrom a1 (nI x0)))), (a_M_seenBy, .inl (K 0, 200, .inl (upd f_M_seenBy a1 (nI x1)))), (a_M_seenWords, .inl (K 0, 200, .inl f_M_seenWords)), (a_M_turns, .inl (K 0, 200, .inl f_M_turns))]) B hP hD hS 4 rfl (nI_in (by omega) (by omega)) (nI_clamp (by omega)) rfl dX2_queue_37 (fun H locs hP hD hS => ?_)
    have s6 : uRg (upd f_M_seenBy a1 (nI x1)) 0 11 := (uRup r_M_seenBy (uLoN (by simp only [Int32.reduceToInt]; omega) (by omega)) (uHiN (by simp only [Int32.reduceToInt]; omega) (by omega)))
    refine lv_aload_n hx hb dX2_queue_38 rfl (lv_at hl 1 rfl) ?_
    refine uGet (ci := 2) (C := RX2) (T := TX2) (N := 14) (v := .ref a_M_seenWords) B inlX2 hP 0 rfl rfl 12 rfl mfl_X2_45 rfl rfl dX2_queue_39 ?_
    refine lv_iload hx hb dX2_queue_42 (lv_at hl 0 rfl) ?_
    refine lv_iload_n hx hb dX2_queue_44 rfl (lv_at hl 4 rfl) ?_
    refine uIast (i := (nI a1)) (j := a1) (ws' := [(a_M, .inr (2, [.ref a_L, .ref a_RA, .int v_M_given, .int v_M_spent, .ref a_M_tallies, .ref a_M_hearings, .ref a_M_ordersDone, .ref a_M_busyTill, .ref a_M_deafFrom, .ref a_M_seenMinutes, .ref a_M_seenFrom, .ref a_M_seenBy, .ref a_M_seenWords, .ref a_M_turns])), (a_M_tallies, .inl (K 0, 5, .inl f_M_tallies)), (a_M_seenMinutes, .inl (K 0, 200, .inl f_M_seenMinutes)), (a_M_seenFrom, .inl (K 0, 200, .inl (upd f_M_seenFrom a1 (nI x0)))), (a_M_seenBy, .inl (K 0, 200, .inl (upd f_M_seenBy a1 (nI x1)))), (a_M_seenWords, .inl (K 0, 200, .inl (upd f_M_seenWords a1 (nI x2)))), (a_M_turns, .inl (K 0, 200, .inl f_M_turns))]) B hP hD hS 5 rfl (nI_in (by omega) (by omega)) (nI_clamp (by omega)) rfl dX2_queue_45 (fun H locs hP hD hS => ?_)
    have s8 : uRg (upd f_M_seenWords a1 (nI x2)) 0 9 := (uRup r_M_seenWords (uLoN (by simp only [Int32.reduceToInt]; omega) (by omega)) (uHiN (by simp only [Int32.reduceToInt]; omega) (by omega)))
    refine lv_pc (q := 46) rfl ?_
    refine lv_aload_n hx hb dX2_queue_46 rfl (lv_at hl 1 rfl) ?_
    refine uGet (ci := 2) (C := RX2) (T := TX2) (N := 14) (v := .ref a_M_seenMinutes) B inlX2 hP 0 rfl rfl 9 rfl mfl_X2_36 rfl rfl dX2_queue_47 ?_
    refine lv_iload hx hb dX2_queue_50 (lv_at hl 0 rfl) ?_
    refine lv_iload hx hb dX2_queue_52 (lv_at hl 5 rfl) ?_
    refine uIast (i := (nI a1)) (j := a1) (ws' := [(a_M, .inr (2, [.ref a_L, .ref a_RA, .int v_M_given, .int v_M_spent, .ref a_M_tallies, .ref a_M_hearings, .ref a_M_ordersDone, .ref a_M_busyTill, .ref a_M_deafFrom, .ref a_M_seenMinutes, .ref a_M_seenFrom, .ref a_M_seenBy, .ref a_M_seenWords, .ref a_M_turns])), (a_M_tallies, .inl (K 0, 5, .inl f_M_tallies)), (a_M_seenMinutes, .inl (K 0, 200, .inl (upd f_M_seenMinutes a1 x3))), (a_M_seenFrom, .inl (K 0, 200, .inl (upd f_M_seenFrom a1 (nI x0)))), (a_M_seenBy, .inl (K 0, 200, .inl (upd f_M_seenBy a1 (nI x1)))), (a_M_seenWords, .inl (K 0, 200, .inl (upd f_M_seenWords a1 (nI x2)))), (a_M_turns, .inl (K 0, 200, .inl f_M_turns))]) B hP hD hS 2 rfl (nI_in (by omega) (by omega)) (nI_clamp (by omega)) rfl dX2_queue_54 (fun H locs hP hD hS => ?_)
    refine lv_iload hx hb dX2_queue_55 (lv_at hl 0 rfl) ?_
    refine lv_pc (q := 57) rfl ?_
    refine lv_istore (lv' := [(6, .int (nI a1)), (5, .int (nI a1)), (0, .ref a_M), (1, .int (nI x0)), (2, .int (nI x1)), (3, .int (nI x2)), (4, .int x3)]) hx hb dX2_queue_57 hl (by decide) rfl (fun ls hl => ?_)
    have L12 : ∀ (n9 : Nat) (y9 : Nat) (f10 : Nat → Int32), (y9 ≤ 199) → (uRg f10 0 199) → y9 < n9 → ∀ (H : Heap) (locs : List Loc) (ls : Array Slot), va_P D vwCl [(a_M, .inr (2, [.ref a_L, .ref a_RA, .int v_M_given, .int v_M_spent, .ref a_M_tallies, .ref a_M_hearings, .ref a_M_ordersDone, .ref a_M_busyTill, .ref a_M_deafFrom, .ref a_M_seenMinutes, .ref a_M_seenFrom, .ref a_M_seenBy, .ref a_M_seenWords, .ref a_M_turns])), (a_M_tallies, .inl (K 0, 5, .inl f_M_tallies)), (a_M_seenMinutes, .inl (K 0, 200, .inl (upd f_M_seenMinutes a1 x3))), (a_M_seenFrom, .inl (K 0, 200, .inl (upd f_M_seenFrom a1 (nI x0)))), (a_M_seenBy, .inl (K 0, 200, .inl (upd f_M_seenBy a1 (nI x1)))), (a_M_seenWords, .inl (K 0, 200, .inl (upd f_M_seenWords a1 (nI x2)))), (a_M_turns, .inl (K 0, 200, .inl f10))] H → va_D A [(a_M, .inr (2, [.ref a_L, .ref a_RA, .int v_M_given, .int v_M_spent, .ref a_M_tallies, .ref a_M_hearings, .ref a_M_ordersDone, .ref a_M_busyTill, .ref a_M_deafFrom, .ref a_M_seenMinutes, .ref a_M_seenFrom, .ref a_M_seenBy, .ref a_M_seenWords, .ref a_M_turns])), (a_M_tallies, .inl (K 0, 5, .inl f_M_tallies)), (a_M_seenMinutes, .inl (K 0, 200, .inl (upd f_M_seenMinutes a1 x3))), (a_M_seenFrom, .inl (K 0, 200, .inl (upd f_M_seenFrom a1 (nI x0)))), (a_M_seenBy, .inl (K 0, 200, .inl (upd f_M_seenBy a1 (nI x1)))), (a_M_seenWords, .inl (K 0, 200, .inl (upd f_M_seenWords a1 (nI x2)))), (a_M_turns, .inl (K 0, 200, .inl f10))] → va_S A s.heap H locs → lv_has ls 7 [(6, .int (nI y9)), (5, .int (nI a1)), (0, .ref a_M), (1, .int (nI x0)), (2, .int (nI x1)), (3, .int (nI x2)), (4, .int x3)] → W p l e { frames := 0, cells := 0, slots := 0, locals := 0 } s m ([.ref a_M, .int (nI x0), .int (nI x1), .int (nI x2), .int x3] : List Value).toArray below meth c H locs 0 0 (MQ below (uQv D (qwX2_queue a_M v_M_given v_M_spent a_M_tallies f_M_tallies a_M_seenMinutes f_M_seenMinutes a_M_seenFrom f_M_seenFrom a_M_seenBy f_M_seenBy a_M_seenWords f_M_seenWords a_M_turns f_M_turns a_L a_RA a_M_hearings a_M_ordersDone a_M_busyTill a_M_deafFrom x0 x1 x2 x3) (vwX2_queue K a_M v_M_given v_M_spent a_M_tallies f_M_tallies a_M_seenMinutes f_M_seenMinutes a_M_seenFrom f_M_seenFrom a_M_seenBy f_M_seenBy a_M_seenWords f_M_seenWords a_M_turns f_M_turns a_L a_RA a_M_hearings a_M_ordersDone a_M_busyTill a_M_deafFrom x0 x1 x2 x3) A) ([.ref a_M, .int (nI x0), .int (nI x1), .int (nI x2), .int x3] : List Value).toArray s 0 0 A) (F0 m 59 ls []) := by
      intro n9
      induction n9 with
      | zero => intros; exact absurd ‹_ < 0› (Nat.not_lt_zero _)
      | succ n59_ ih59 =>
        intro y9 f10 hy9 rf10 hm59 H locs ls hP hD hS hl
        refine lv_iload hx hb dX2_queue_59 (lv_at hl 0 rfl) ?_
        refine lv_if_le (tgt := 105) hx hb dX2_queue_61 (by decide) (fun c13 => ?_) (fun c13 => ?_)
        · have k_13 : y9 ≤ 0 := (nI_leI (a := y9) (b := 0) (by omega) (by omega)).mp c13
          refine lv_aload_n hx hb dX2_queue_105 rfl (lv_at hl 2 rfl) ?_
          refine uGet (ci := 2) (C := RX2) (T := TX2) (N := 14) (v := .ref a_M_turns) B inlX2 hP 0 rfl rfl 13 rfl mfl_X2_48 rfl rfl dX2_queue_106 ?_
          refine lv_iload hx hb dX2_queue_109 (lv_at hl 0 rfl) ?_
          refine lv_pc (q := 111) rfl ?_
          refine lv_iload hx hb dX2_queue_111 (lv_at hl 1 rfl) ?_
          refine uIast (i := (nI y9)) (j := y9) (ws' := [(a_M, .inr (2, [.ref a_L, .ref a_RA, .int v_M_given, .int v_M_spent, .ref a_M_tallies, .ref a_M_hearings, .ref a_M_ordersDone, .ref a_M_busyTill, .ref a_M_deafFrom, .ref a_M_seenMinutes, .ref a_M_seenFrom, .ref a_M_seenBy, .ref a_M_seenWords, .ref a_M_turns])), (a_M_tallies, .inl (K 0, 5, .inl f_M_tallies)), (a_M_seenMinutes, .inl (K 0, 200, .inl (upd f_M_seenMinutes a1 x3))), (a_M_seenFrom, .inl (K 0, 200, .inl (upd f_M_seenFrom a1 (nI x0)))), (a_M_seenBy, .inl (K 0, 200, .inl (upd f_M_seenBy a1 (nI x1)))), (a_M_seenWords, .inl (K 0, 200, .inl (upd f_M_seenWords a1 (nI x2)))), (a_M_turns, .inl (K 0, 200, .inl (upd f10 y9 (nI a1))))]) B hP hD hS 6 rfl (nI_in (by omega) (by omega)) (nI_clamp (by omega)) rfl dX2_queue_113 (fun H locs hP hD hS => ?_)
          have s15 : uRg (upd f10 y9 (nI a1)) 0 199 := (uRup rf10 (uLoN (by simp only [Int32.reduceToInt]; omega) (by omega)) (uHiN (by simp only [Int32.reduceToInt]; omega) (by omega)))
          refine lv_aload_n hx hb dX2_queue_114 rfl (lv_at hl 2 rfl) ?_
          refine uGet (ci := 2) (C := RX2) (T := TX2) (N := 14) (v := .ref a_M_tallies) B inlX2 hP 0 rfl rfl 4 rfl mfl_X2_18 rfl rfl dX2_queue_115 ?_
          refine lv_iconst (v := 0) hx hb dX2_queue_118 (by decide) ?_
          refine lv_dup2_11 hx hb dX2_queue_119 rfl rfl ?_
          refine lv_pc (q := 120) rfl ?_
          refine uIald (i := 0) (j := 0) B hP 1 rfl (by decide) rfl dX2_queue_120 ?_
          refine lv_fixi (y := (nI a1)) ea1 ?_
          refine lv_iconst (v := 1) hx hb dX2_queue_121 (by decide) ?_
          refine lv_iadd hx hb dX2_queue_122 ?_
          refine lv_fixi (y := (nI (a1 + 1))) (by rw [show (1 : Int32) = nI 1 from rfl, nI_add]) ?_
          refine uIast (i := 0) (j := 0) (ws' := [(a_M, .inr (2, [.ref a_L, .ref a_RA, .int v_M_given, .int v_M_spent, .ref a_M_tallies, .ref a_M_hearings, .ref a_M_ordersDone, .ref a_M_busyTill, .ref a_M_deafFrom, .ref a_M_seenMinutes, .ref a_M_seenFrom, .ref a_M_seenBy, .ref a_M_seenWords, .ref a_M_turns])), (a_M_tallies, .inl (K 0, 5, .inl (upd f_M_tallies 0 (nI (a1 + 1))))), (a_M_seenMinutes, .inl (K 0, 200, .inl (upd f_M_seenMinutes a1 x3))), (a_M_seenFrom, .inl (K 0, 200, .inl (upd f_M_seenFrom a1 (nI x0)))), (a_M_seenBy, .inl (K 0, 200, .inl (upd f_M_seenBy a1 (nI x1)))), (a_M_seenWords, .inl (K 0, 200, .inl (upd f_M_seenWords a1 (nI x2)))), (a_M_turns, .inl (K 0, 200, .inl (upd f10 y9 (nI a1))))]) B hP hD hS 1 rfl (by decide) rfl rfl dX2_queue_123 (fun H locs hP hD hS => ?_)
          have i16 : uT0 (upd f_M_tallies 0 (nI (a1 + 1))) := (uT0u (by omega))
          exact uRv (v_M_spent, upd f_M_tallies 0 (nI (a1 + 1)), upd f_M_seenMinutes a1 x3, upd f_M_seenFrom a1 (nI x0), upd f_M_seenBy a1 (nI x1), upd f_M_seenWords a1 (nI x2), upd f10 y9 (nI a1)) B ⟨hv_M_spent, s4, s6, s8, s15, i16⟩ (uSub hP [0, 1, 2, 3, 4, 5, 6] rfl) (hD.sub [0, 1, 2, 3, 4, 5, 6] rfl rfl) hS dX2_queue_124
        have k_13 : ¬ y9 ≤ 0 := fun h9 => c13 ((nI_leI (a := y9) (b := 0) (by omega) (by omega)).mpr h9)
        refine lv_aload_n hx hb dX2_queue_64 rfl (lv_at hl 2 rfl) ?_
        refine uGet (ci := 2) (C := RX2) (T := TX2) (N := 14) (v := .ref a_M_seenMinutes) B inlX2 hP 0 rfl rfl 9 rfl mfl_X2_36 rfl rfl dX2_queue_65 ?_
        refine lv_aload_n hx hb dX2_queue_68 rfl (lv_at hl 2 rfl) ?_
        refine lv_pc (q := 69) rfl ?_
        refine uGet (ci := 2) (C := RX2) (T := TX2) (N := 14) (v := .ref a_M_turns) B inlX2 hP 0 rfl rfl 13 rfl mfl_X2_48 rfl rfl dX2_queue_69 ?_
        refine lv_iload hx hb dX2_queue_72 (lv_at hl 0 rfl) ?_
        refine lv_iconst (v := 1) hx hb dX2_queue_74 (by decide) ?_
        refine lv_isub hx hb dX2_queue_75 ?_
        refine lv_fixi (y := (nI (y9 - 1))) (by rw [show (1 : Int32) = nI 1 from rfl, pk_sub (by omega)]) ?_
        refine uIald (i := (nI (y9 - 1))) (j := y9 - 1) B hP 6 rfl (nI_in (by omega) (by omega)) (nI_clamp (by omega)) dX2_queue_76 ?_
        obtain ⟨a17, ha17, ea17⟩ := uRnat rf10 (y9 - 1) (by decide)
        simp only [Int32.reduceToInt] at ha17
        refine lv_fixi (y := (nI a17)) ea17 ?_
        refine uIald (i := (nI a17)) (j := a17) B hP 2 rfl (nI_in (by omega) (by omega)) (nI_clamp (by omega)) dX2_queue_77 ?_
        refine lv_pc (q := 78) rfl ?_
        refine lv_iload hx hb dX2_queue_78 (lv_at hl 6 rfl) ?_
        refine lv_icmp_le (tgt := 105) hx hb dX2_queue_80 (by decide) (fun c18 => ?_) (fun c18 => ?_)
        · refine lv_aload_n hx hb dX2_queue_105 rfl (lv_at hl 2 rfl) ?_
          refine uGet (ci := 2) (C := RX2) (T := TX2) (N := 14) (v := .ref a_M_turns) B inlX2 hP 0 rfl rfl 13 rfl mfl_X2_48 rfl rfl dX2_queue_106 ?_
          refine lv_iload hx hb dX2_queue_109 (lv_at hl 0 rfl) ?_
          refine lv_iload hx hb dX2_queue_111 (lv_at hl 1 rfl) ?_
          refine lv_pc (q := 113) rfl ?_
          refine uIast (i := (nI y9)) (j := y9) (ws' := [(a_M, .inr (2, [.ref a_L, .ref a_RA, .int v_M_given, .int v_M_spent, .ref a_M_tallies, .ref a_M_hearings, .ref a_M_ordersDone, .ref a_M_busyTill, .ref a_M_deafFrom, .ref a_M_seenMinutes, .ref a_M_seenFrom, .ref a_M_seenBy, .ref a_M_seenWords, .ref a_M_turns])), (a_M_tallies, .inl (K 0, 5, .inl f_M_tallies)), (a_M_seenMinutes, .inl (K 0, 200, .inl (upd f_M_seenMinutes a1 x3))), (a_M_seenFrom, .inl (K 0, 200, .inl (upd f_M_seenFrom a1 (nI x0)))), (a_M_seenBy, .inl (K 0, 200, .inl (upd f_M_seenBy a1 (nI x1)))), (a_M_seenWords, .inl (K 0, 200, .inl (upd f_M_seenWords a1 (nI x2)))), (a_M_turns, .inl (K 0, 200, .inl (upd f10 y9 (nI a1))))]) B hP hD hS 6 rfl (nI_in (by omega) (by omega)) (nI_clamp (by omega)) rfl dX2_queue_113 (fun H locs hP hD hS => ?_)
          have s20 : uRg (upd f10 y9 (nI a1)) 0 199 := (uRup rf10 (uLoN (by simp only [Int32.reduceToInt]; omega) (by omega)) (uHiN (by simp only [Int32.reduceToInt]; omega) (by omega)))
          refine lv_aload_n hx hb dX2_queue_114 rfl (lv_at hl 2 rfl) ?_
          refine uGet (ci := 2) (C := RX2) (T := TX2) (N := 14) (v := .ref a_M_tallies) B inlX2 hP 0 rfl rfl 4 rfl mfl_X2_18 rfl rfl dX2_queue_115 ?_
          refine lv_iconst (v := 0) hx hb dX2_queue_118 (by decide) ?_
          refine lv_dup2_11 hx hb dX2_queue_119 rfl rfl ?_
          refine uIald (i := 0) (j := 0) B hP 1 rfl (by decide) rfl dX2_queue_120 ?_
          refine lv_pc (q := 121) rfl ?_
          refine lv_fixi (y := (nI a1)) ea1 ?_
          refine lv_iconst (v := 1) hx hb dX2_queue_121 (by decide) ?_
          refine lv_iadd hx hb dX2_queue_122 ?_
          refine lv_fixi (y := (nI (a1 + 1))) (by rw [show (1 : Int32) = nI 1 from rfl, nI_add]) ?_
          refine uIast (i := 0) (j := 0) (ws' := [(a_M, .inr (2, [.ref a_L, .ref a_RA, .int v_M_given, .int v_M_spent, .ref a_M_tallies, .ref a_M_hearings, .ref a_M_ordersDone, .ref a_M_busyTill, .ref a_M_deafFrom, .ref a_M_seenMinutes, .ref a_M_seenFrom, .ref a_M_seenBy, .ref a_M_seenWords, .ref a_M_turns])), (a_M_tallies, .inl (K 0, 5, .inl (upd f_M_tallies 0 (nI (a1 + 1))))), (a_M_seenMinutes, .inl (K 0, 200, .inl (upd f_M_seenMinutes a1 x3))), (a_M_seenFrom, .inl (K 0, 200, .inl (upd f_M_seenFrom a1 (nI x0)))), (a_M_seenBy, .inl (K 0, 200, .inl (upd f_M_seenBy a1 (nI x1)))), (a_M_seenWords, .inl (K 0, 200, .inl (upd f_M_seenWords a1 (nI x2)))), (a_M_turns, .inl (K 0, 200, .inl (upd f10 y9 (nI a1))))]) B hP hD hS 1 rfl (by decide) rfl rfl dX2_queue_123 (fun H locs hP hD hS => ?_)
          have i21 : uT0 (upd f_M_tallies 0 (nI (a1 + 1))) := (uT0u (by omega))
          exact uRv (v_M_spent, upd f_M_tallies 0 (nI (a1 + 1)), upd f_M_seenMinutes a1 x3, upd f_M_seenFrom a1 (nI x0), upd f_M_seenBy a1 (nI x1), upd f_M_seenWords a1 (nI x2), upd f10 y9 (nI a1)) B ⟨hv_M_spent, s4, s6, s8, s20, i21⟩ (uSub hP [0, 1, 2, 3, 4, 5, 6] rfl) (hD.sub [0, 1, 2, 3, 4, 5, 6] rfl rfl) hS dX2_queue_124
        refine lv_aload_n hx hb dX2_queue_83 rfl (lv_at hl 2 rfl) ?_
        refine uGet (ci := 2) (C := RX2) (T := TX2) (N := 14) (v := .ref a_M_turns) B inlX2 hP 0 rfl rfl 13 rfl mfl_X2_48 rfl rfl dX2_queue_84 ?_
        refine lv_iload hx hb dX2_queue_87 (lv_at hl 0 rfl) ?_
        refine lv_aload_n hx hb dX2_queue_89 rfl (lv_at hl 2 rfl) ?_
        refine lv_pc (q := 90) rfl ?_
        refine uGet (ci := 2) (C := RX2) (T := TX2) (N := 14) (v := .ref a_M_turns) B inlX2 hP 0 rfl rfl 13 rfl mfl_X2_48 rfl rfl dX2_queue_90 ?_
        refine lv_iload hx hb dX2_queue_93 (lv_at hl 0 rfl) ?_
        refine lv_iconst (v := 1) hx hb dX2_queue_95 (by decide) ?_
        refine lv_isub hx hb dX2_queue_96 ?_
        refine lv_fixi (y := (nI (y9 - 1))) (by rw [show (1 : Int32) = nI 1 from rfl, pk_sub (by omega)]) ?_
        refine uIald (i := (nI (y9 - 1))) (j := y9 - 1) B hP 6 rfl (nI_in (by omega) (by omega)) (nI_clamp (by omega)) dX2_queue_97 ?_
        refine lv_fixi (y := (nI a17)) ea17 ?_
        refine uIast (i := (nI y9)) (j := y9) (ws' := [(a_M, .inr (2, [.ref a_L, .ref a_RA, .int v_M_given, .int v_M_spent, .ref a_M_tallies, .ref a_M_hearings, .ref a_M_ordersDone, .ref a_M_busyTill, .ref a_M_deafFrom, .ref a_M_seenMinutes, .ref a_M_seenFrom, .ref a_M_seenBy, .ref a_M_seenWords, .ref a_M_turns])), (a_M_tallies, .inl (K 0, 5, .inl f_M_tallies)), (a_M_seenMinutes, .inl (K 0, 200, .inl (upd f_M_seenMinutes a1 x3))), (a_M_seenFrom, .inl (K 0, 200, .inl (upd f_M_seenFrom a1 (nI x0)))), (a_M_seenBy, .inl (K 0, 200, .inl (upd f_M_seenBy a1 (nI x1)))), (a_M_seenWords, .inl (K 0, 200, .inl (upd f_M_seenWords a1 (nI x2)))), (a_M_turns, .inl (K 0, 200, .inl (upd f10 y9 (nI a17))))]) B hP hD hS 6 rfl (nI_in (by omega) (by omega)) (nI_clamp (by omega)) rfl dX2_queue_98 (fun H locs hP hD hS => ?_)
        have s23 : uRg (upd f10 y9 (nI a17)) 0 199 := (uRup rf10 (uLoN (by simp only [Int32.reduceToInt]; omega) (by omega)) (uHiN (by simp only [Int32.reduceToInt]; omega) (by omega)))
        refine lv_pc (q := 99) rfl ?_
        refine lv_iinc (v := nI (y9 - 1)) (lv' := [(6, .int (nI (y9 - 1))), (5, .int (nI a1)), (0, .ref a_M), (1, .int (nI x0)), (2, .int (nI x1)), (3, .int (nI x2)), (4, .int x3)]) hx hb dX2_queue_99 hl (k := 0) rfl (sb_m1 (by omega)) (by decide) rfl (fun ls hl => ?_)
        refine lv_goto (tgt := 59) hx hb dX2_queue_102 (by decide) ?_
        refine lv_pc (q := 59) rfl ?_
        refine W.widen (k := 0) (n := 0) (Nat.le_of_ble_eq_true rfl) (Nat.le_of_ble_eq_true rfl) ?_
        exact ih59 (y9 - 1) (upd f10 y9 (nI a17)) (by omega) s23 (by omega) _ _ _ (uSub hP [0, 1, 2, 3, 4, 5, 6] rfl) (hD.sub [0, 1, 2, 3, 4, 5, 6] rfl rfl) hS (lv_sub hl [0, 1, 2, 3, 4, 5, 6] rfl)
    refine lv_pc (q := 59) rfl ?_
    refine W.widen (k := 0) (n := 0) (Nat.le_of_ble_eq_true rfl) (Nat.le_of_ble_eq_true rfl) ?_
    exact L12 ((a1) + 1) a1 f_M_turns (by omega) r_M_turns (Nat.lt_succ_self _) _ _ _ hP hD hS hl
  have k_2 : ¬ a1 < 200 := fun h9 => c2 ((nI_ltI (a := a1) (b := 200) (by omega) (by omega)).mpr h9)
  refine lv_aload_n hx hb dX2_queue_16 rfl (lv_at hl 1 rfl) ?_
  refine lv_iconst (v := 1) hx hb dX2_queue_17 (by decide) ?_
  refine uPut (ci := 2) (C := RX2) (T := TX2) (N := 14) (ws' := [(a_M, .inr (2, [.ref a_L, .ref a_RA, .int v_M_given, .int 1, .ref a_M_tallies, .ref a_M_hearings, .ref a_M_ordersDone, .ref a_M_busyTill, .ref a_M_deafFrom, .ref a_M_seenMinutes, .ref a_M_seenFrom, .ref a_M_seenBy, .ref a_M_seenWords, .ref a_M_turns])), (a_M_tallies, .inl (K 0, 5, .inl f_M_tallies)), (a_M_seenMinutes, .inl (K 0, 200, .inl f_M_seenMinutes)), (a_M_seenFrom, .inl (K 0, 200, .inl f_M_seenFrom)), (a_M_seenBy, .inl (K 0, 200, .inl f_M_seenBy)), (a_M_seenWords, .inl (K 0, 200, .inl f_M_seenWords)), (a_M_turns, .inl (K 0, 200, .inl f_M_turns))]) B inlX2 tyX2_ok nmX2 hP hD hS 0 rfl rfl 3 rfl mfl_X2_15 rfl rfl rfl rfl rfl rfl dX2_queue_18 (fun H locs hP hD hS => ?_)
  refine lv_pc (q := 21) rfl ?_
  exact uRv (1, f_M_tallies, f_M_seenMinutes, f_M_seenFrom, f_M_seenBy, f_M_seenWords, f_M_turns) B ⟨(Or.inr rfl), r_M_seenFrom, r_M_seenBy, r_M_seenWords, r_M_turns, i_uT0⟩ (uSub hP [0, 1, 2, 3, 4, 5, 6] rfl) (hD.sub [0, 1, 2, 3, 4, 5, 6] rfl rfl) hS dX2_queue_21
def qwX2_show (a_M : Nat) (v_M_given : Int32) (v_M_spent : Int32) (a_M_tallies : Nat) (f_M_tallies : Nat → Int32) (a_M_seenMinutes : Nat) (f_M_seenMinutes : Nat → Int32) (a_M_seenFrom : Nat) (f_M_seenFrom : Nat → Int32) (a_M_seenBy : Nat) (f_M_seenBy : Nat → Int32) (a_M_seenWords : Nat) (f_M_seenWords : Nat → Int32) (a_M_turns : Nat) (f_M_turns : Nat → Int32) (a_L : Nat) (a_RA : Nat) (a_M_hearings : Nat) (a_M_ordersDone : Nat) (a_M_busyTill : Nat) (a_M_deafFrom : Nat) (x0 : Nat) (x1 : Int32) (x2 : Nat) (x3 : Int32) : (Int32 × (Nat → Int32) × (Nat → Int32) × (Nat → Int32) × (Nat → Int32) × (Nat → Int32) × (Nat → Int32)) → Prop := (fun (u : Int32 × (Nat → Int32) × (Nat → Int32) × (Nat → Int32) × (Nat → Int32) × (Nat → Int32) × (Nat → Int32)) => (u.1 = 0 ∨ u.1 = 1) ∧ (uRg u.2.2.2.1 0 11) ∧ (uRg u.2.2.2.2.1 0 11) ∧ (uRg u.2.2.2.2.2.1 0 9) ∧ (uRg u.2.2.2.2.2.2 0 199) ∧ (uT0 u.2.1))
def vwX2_show (K : Nat → ClassId) (a_M : Nat) (v_M_given : Int32) (v_M_spent : Int32) (a_M_tallies : Nat) (f_M_tallies : Nat → Int32) (a_M_seenMinutes : Nat) (f_M_seenMinutes : Nat → Int32) (a_M_seenFrom : Nat) (f_M_seenFrom : Nat → Int32) (a_M_seenBy : Nat) (f_M_seenBy : Nat → Int32) (a_M_seenWords : Nat) (f_M_seenWords : Nat → Int32) (a_M_turns : Nat) (f_M_turns : Nat → Int32) (a_L : Nat) (a_RA : Nat) (a_M_hearings : Nat) (a_M_ordersDone : Nat) (a_M_busyTill : Nat) (a_M_deafFrom : Nat) (x0 : Nat) (x1 : Int32) (x2 : Nat) (x3 : Int32) : (Int32 × (Nat → Int32) × (Nat → Int32) × (Nat → Int32) × (Nat → Int32) × (Nat → Int32) × (Nat → Int32)) → va_W := (fun (u : Int32 × (Nat → Int32) × (Nat → Int32) × (Nat → Int32) × (Nat → Int32) × (Nat → Int32) × (Nat → Int32)) => [(a_M, .inr (2, [.ref a_L, .ref a_RA, .int v_M_given, .int u.1, .ref a_M_tallies, .ref a_M_hearings, .ref a_M_ordersDone, .ref a_M_busyTill, .ref a_M_deafFrom, .ref a_M_seenMinutes, .ref a_M_seenFrom, .ref a_M_seenBy, .ref a_M_seenWords, .ref a_M_turns])), (a_M_tallies, .inl (K 0, 5, .inl (u.2.1))), (a_M_seenMinutes, .inl (K 0, 200, .inl (u.2.2.1))), (a_M_seenFrom, .inl (K 0, 200, .inl (u.2.2.2.1))), (a_M_seenBy, .inl (K 0, 200, .inl (u.2.2.2.2.1))), (a_M_seenWords, .inl (K 0, 200, .inl (u.2.2.2.2.2.1))), (a_M_turns, .inl (K 0, 200, .inl (u.2.2.2.2.2.2)))])
set_option maxHeartbeats 4000000 in
set_option maxRecDepth 100000 in
theorem wX2_show (l : Launch) (D : va_G) (K : Nat → ClassId) (sz : Nat) (a_M : Nat) (v_M_given : Int32) (v_M_spent : Int32) (a_M_tallies : Nat) (f_M_tallies : Nat → Int32) (a_M_seenMinutes : Nat) (f_M_seenMinutes : Nat → Int32) (a_M_seenFrom : Nat) (f_M_seenFrom : Nat → Int32) (a_M_seenBy : Nat) (f_M_seenBy : Nat → Int32) (a_M_seenWords : Nat) (f_M_seenWords : Nat → Int32) (a_M_turns : Nat) (f_M_turns : Nat → Int32) (a_L : Nat) (a_RA : Nat) (a_M_hearings : Nat) (a_M_ordersDone : Nat) (a_M_busyTill : Nat) (a_M_deafFrom : Nat) (x0 : Nat) (x1 : Int32) (x2 : Nat) (x3 : Int32) (hv_M_given : v_M_given = 0 ∨ v_M_given = 1) (hv_M_spent : v_M_spent = 0 ∨ v_M_spent = 1) (r_M_seenFrom : uRg f_M_seenFrom 0 11) (r_M_seenBy : uRg f_M_seenBy 0 11) (r_M_seenWords : uRg f_M_seenWords 0 9) (r_M_turns : uRg f_M_turns 0 199) (hx0 : x0 < 12) (hx2 : x2 < 10) (i_uT0 : uT0 f_M_tallies) : uMv l yX2_show cX2_show 6 { frames := 1, cells := 0, slots := 0, locals := 26 } [.ref a_M, .int (nI x0), .int x1, .int (nI x2), .int x3] D K [(a_M, .inr (2, [.ref a_L, .ref a_RA, .int v_M_given, .int v_M_spent, .ref a_M_tallies, .ref a_M_hearings, .ref a_M_ordersDone, .ref a_M_busyTill, .ref a_M_deafFrom, .ref a_M_seenMinutes, .ref a_M_seenFrom, .ref a_M_seenBy, .ref a_M_seenWords, .ref a_M_turns])), (a_M_tallies, .inl (K 0, 5, .inl f_M_tallies)), (a_M_seenMinutes, .inl (K 0, 200, .inl f_M_seenMinutes)), (a_M_seenFrom, .inl (K 0, 200, .inl f_M_seenFrom)), (a_M_seenBy, .inl (K 0, 200, .inl f_M_seenBy)), (a_M_seenWords, .inl (K 0, 200, .inl f_M_seenWords)), (a_M_turns, .inl (K 0, 200, .inl f_M_turns))] sz (qwX2_show a_M v_M_given v_M_spent a_M_tallies f_M_tallies a_M_seenMinutes f_M_seenMinutes a_M_seenFrom f_M_seenFrom a_M_seenBy f_M_seenBy a_M_seenWords f_M_seenWords a_M_turns f_M_turns a_L a_RA a_M_hearings a_M_ordersDone a_M_busyTill a_M_deafFrom x0 x1 x2 x3) (vwX2_show K a_M v_M_given v_M_spent a_M_tallies f_M_tallies a_M_seenMinutes f_M_seenMinutes a_M_seenFrom f_M_seenFrom a_M_seenBy f_M_seenBy a_M_seenWords f_M_seenWords a_M_turns f_M_turns a_L a_RA a_M_hearings a_M_ordersDone a_M_busyTill a_M_deafFrom x0 x1 x2 x3) := by
  refine uMet (Qc := uQv D (qwX2_show a_M v_M_given v_M_spent a_M_tallies f_M_tallies a_M_seenMinutes f_M_seenMinutes a_M_seenFrom f_M_seenFrom a_M_seenBy f_M_seenBy a_M_seenWords f_M_seenWords a_M_turns f_M_turns a_L a_RA a_M_hearings a_M_ordersDone a_M_busyTill a_M_deafFrom x0 x1 x2 x3) (vwX2_show K a_M v_M_given v_M_spent a_M_tallies f_M_tallies a_M_seenMinutes f_M_seenMinutes a_M_seenFrom f_M_seenFrom a_M_seenBy f_M_seenBy a_M_seenWords f_M_seenWords a_M_turns f_M_turns a_L a_RA a_M_hearings a_M_ordersDone a_M_busyTill a_M_deafFrom x0 x1 x2 x3)) (ret := none) (by decide) (Nat.le_of_ble_eq_true rfl) ?_
  intro p e s m below meth c A ls hAe hsz B hP hD hS hl
  have hx := B.1
  have hb := B.2.1
  have hl : lv_has ls 6 [(0, .ref a_M), (1, .int (nI x0)), (2, .int x1), (3, .int (nI x2)), (4, .int x3)] := hl
  refine lv_iconst (v := 0) hx hb dX2_show_0 (by decide) ?_
  refine lv_istore (lv' := [(5, .int 0), (0, .ref a_M), (1, .int (nI x0)), (2, .int x1), (3, .int (nI x2)), (4, .int x3)]) hx hb dX2_show_1 hl (by decide) rfl (fun ls hl => ?_)
  have L11 : ∀ (n9 : Nat) (j1 : Nat) (y2 : Int32) (f3 : Nat → Int32) (f4 : Nat → Int32) (f5 : Nat → Int32) (f6 : Nat → Int32) (f7 : Nat → Int32) (f8 : Nat → Int32), (j1 ≤ 12) → (y2 = 0 ∨ y2 = 1) → (uRg f5 0 11) → (uRg f6 0 11) → (uRg f7 0 9) → (uRg f8 0 199) → (uT0 f3) → 12 - j1 < n9 → ∀ (H : Heap) (locs : List Loc) (ls : Array Slot), va_P D vwCl [(a_M, .inr (2, [.ref a_L, .ref a_RA, .int v_M_given, .int y2, .ref a_M_tallies, .ref a_M_hearings, .ref a_M_ordersDone, .ref a_M_busyTill, .ref a_M_deafFrom, .ref a_M_seenMinutes, .ref a_M_seenFrom, .ref a_M_seenBy, .ref a_M_seenWords, .ref a_M_turns])), (a_M_tallies, .inl (K 0, 5, .inl f3)), (a_M_seenMinutes, .inl (K 0, 200, .inl f4)), (a_M_seenFrom, .inl (K 0, 200, .inl f5)), (a_M_seenBy, .inl (K 0, 200, .inl f6)), (a_M_seenWords, .inl (K 0, 200, .inl f7)), (a_M_turns, .inl (K 0, 200, .inl f8))] H → va_D A [(a_M, .inr (2, [.ref a_L, .ref a_RA, .int v_M_given, .int y2, .ref a_M_tallies, .ref a_M_hearings, .ref a_M_ordersDone, .ref a_M_busyTill, .ref a_M_deafFrom, .ref a_M_seenMinutes, .ref a_M_seenFrom, .ref a_M_seenBy, .ref a_M_seenWords, .ref a_M_turns])), (a_M_tallies, .inl (K 0, 5, .inl f3)), (a_M_seenMinutes, .inl (K 0, 200, .inl f4)), (a_M_seenFrom, .inl (K 0, 200, .inl f5)), (a_M_seenBy, .inl (K 0, 200, .inl f6)), (a_M_seenWords, .inl (K 0, 200, .inl f7)), (a_M_turns, .inl (K 0, 200, .inl f8))] → va_S A s.heap H locs → lv_has ls 6 [(5, .int (nI j1)), (0, .ref a_M), (1, .int (nI x0)), (2, .int x1), (3, .int (nI x2)), (4, .int x3)] → W p l e { frames := 1, cells := 0, slots := 0, locals := 26 } s m ([.ref a_M, .int (nI x0), .int x1, .int (nI x2), .int x3] : List Value).toArray below meth c H locs 0 0 (MQ below (uQv D (qwX2_show a_M v_M_given v_M_spent a_M_tallies f_M_tallies a_M_seenMinutes f_M_seenMinutes a_M_seenFrom f_M_seenFrom a_M_seenBy f_M_seenBy a_M_seenWords f_M_seenWords a_M_turns f_M_turns a_L a_RA a_M_hearings a_M_ordersDone a_M_busyTill a_M_deafFrom x0 x1 x2 x3) (vwX2_show K a_M v_M_given v_M_spent a_M_tallies f_M_tallies a_M_seenMinutes f_M_seenMinutes a_M_seenFrom f_M_seenFrom a_M_seenBy f_M_seenBy a_M_seenWords f_M_seenWords a_M_turns f_M_turns a_L a_RA a_M_hearings a_M_ordersDone a_M_busyTill a_M_deafFrom x0 x1 x2 x3) A) ([.ref a_M, .int (nI x0), .int x1, .int (nI x2), .int x3] : List Value).toArray s 0 0 A) (F0 m 3 ls []) := by
    intro n9
    induction n9 with
    | zero => intros; exact absurd ‹_ < 0› (Nat.not_lt_zero _)
    | succ n3_ ih3 =>
      intro j1 y2 f3 f4 f5 f6 f7 f8 hj1 hy2 rf5 rf6 rf7 rf8 xt_9 hm3 H locs ls hP hD hS hl
      refine lv_iload hx hb dX2_show_3 (lv_at hl 0 rfl) ?_
      refine lv_bipush (v := 12) hx hb dX2_show_5 (by decide) ?_
      refine lv_icmp_ge (tgt := 43) hx hb dX2_show_7 (by decide) (fun c12 => ?_) (fun c12 => ?_)
      · have k_12 : 12 ≤ j1 := (nI_leI (a := 12) (b := j1) (by omega) (by omega)).mp c12
        refine lv_pc (q := 43) rfl ?_
        exact uRv (y2, f3, f4, f5, f6, f7, f8) B ⟨hy2, rf5, rf6, rf7, rf8, xt_9⟩ (uSub hP [0, 1, 2, 3, 4, 5, 6] rfl) (hD.sub [0, 1, 2, 3, 4, 5, 6] rfl rfl) hS dX2_show_43
      have k_12 : ¬ 12 ≤ j1 := fun h9 => c12 ((nI_leI (a := 12) (b := j1) (by omega) (by omega)).mpr h9)
      refine lv_pc (q := 10) rfl ?_
      refine lv_aload_n hx hb dX2_show_10 rfl (lv_at hl 1 rfl) ?_
      refine uGet (ci := 2) (C := RX2) (T := TX2) (N := 14) (v := .int y2) B inlX2 hP 0 rfl rfl 3 rfl mfl_X2_15 rfl rfl dX2_show_11 ?_
      refine lv_if_ne (tgt := 43) hx hb dX2_show_14 (by decide) (fun c13 => ?_) (fun c13 => ?_)
      · exact uRv (y2, f3, f4, f5, f6, f7, f8) B ⟨hy2, rf5, rf6, rf7, rf8, xt_9⟩ (uSub hP [0, 1, 2, 3, 4, 5, 6] rfl) (hD.sub [0, 1, 2, 3, 4, 5, 6] rfl rfl) hS dX2_show_43
      refine lv_iload_n hx hb dX2_show_17 rfl (lv_at hl 3 rfl) ?_
      refine lv_iload hx hb dX2_show_18 (lv_at hl 0 rfl) ?_
      refine lv_ishr hx hb dX2_show_20 ?_
      refine lv_pc (q := 21) rfl ?_
      refine lv_iconst (v := 1) hx hb dX2_show_21 (by decide) ?_
      refine lv_iand hx hb dX2_show_22 ?_
      refine lv_iconst (v := 1) hx hb dX2_show_23 (by decide) ?_
      refine lv_icmp_ne (tgt := 37) hx hb dX2_show_24 (by decide) (fun c14 => ?_) (fun c14 => ?_)
      · refine lv_iinc (v := nI (j1 + 1)) (lv' := [(5, .int (nI (j1 + 1))), (0, .ref a_M), (1, .int (nI x0)), (2, .int x1), (3, .int (nI x2)), (4, .int x3)]) hx hb dX2_show_37 hl (k := 0) rfl (nI_1 _) (by decide) rfl (fun ls hl => ?_)
        refine lv_goto (tgt := 3) hx hb dX2_show_40 (by decide) ?_
        refine lv_pc (q := 3) rfl ?_
        refine W.widen (k := 0) (n := 0) (Nat.le_of_ble_eq_true rfl) (Nat.le_of_ble_eq_true rfl) ?_
        exact ih3 (j1 + 1) y2 f3 f4 f5 f6 f7 f8 (by omega) hy2 rf5 rf6 rf7 rf8 xt_9 (by omega) _ _ _ (uSub hP [0, 1, 2, 3, 4, 5, 6] rfl) (hD.sub [0, 1, 2, 3, 4, 5, 6] rfl rfl) hS (lv_sub hl [0, 1, 2, 3, 4, 5] rfl)
      refine lv_aload_n hx hb dX2_show_27 rfl (lv_at hl 1 rfl) ?_
      refine lv_iload_n hx hb dX2_show_28 rfl (lv_at hl 2 rfl) ?_
      refine lv_pc (q := 29) rfl ?_
      refine lv_iload hx hb dX2_show_29 (lv_at hl 0 rfl) ?_
      refine lv_iload_n hx hb dX2_show_31 rfl (lv_at hl 4 rfl) ?_
      refine lv_iload hx hb dX2_show_32 (lv_at hl 5 rfl) ?_
      refine uVvJ (As := [.int (nI x0), .int (nI j1), .int (nI x2), .int x3]) (rest := []) (wr := []) (wX2_queue l D K _ a_M v_M_given y2 a_M_tallies f3 a_M_seenMinutes f4 a_M_seenFrom f5 a_M_seenBy f6 a_M_seenWords f7 a_M_turns f8 a_L a_RA a_M_hearings a_M_ordersDone a_M_busyTill a_M_deafFrom x0 j1 x2 x3 hv_M_given hy2 rf5 rf6 rf7 rf8 (by omega) (by omega) (by omega) xt_9) B hl.1 hP hD hS [0, 1, 2, 3, 4, 5, 6] [] rfl rfl rfl wd_X2_queue mml_X2_148 rfl rfl rfl rfl ⟨Nat.le_of_ble_eq_true rfl, Nat.le_of_ble_eq_true rfl⟩ (Nat.le_of_ble_eq_true rfl) ⟨Nat.le_of_ble_eq_true rfl, Nat.le_of_ble_eq_true rfl⟩ dX2_show_34 (fun u H locs hw hP hD hS => ?_)
      obtain ⟨u16, u17, u18, u19, u20, u21, u22⟩ := u
      try dsimp only at hw
      obtain ⟨w23, w24, w25, w26, w27, w28⟩ := hw
      have hP : va_P D vwCl [(a_M, .inr (2, [.ref a_L, .ref a_RA, .int v_M_given, .int u16, .ref a_M_tallies, .ref a_M_hearings, .ref a_M_ordersDone, .ref a_M_busyTill, .ref a_M_deafFrom, .ref a_M_seenMinutes, .ref a_M_seenFrom, .ref a_M_seenBy, .ref a_M_seenWords, .ref a_M_turns])), (a_M_tallies, .inl (K 0, 5, .inl u17)), (a_M_seenMinutes, .inl (K 0, 200, .inl u18)), (a_M_seenFrom, .inl (K 0, 200, .inl u19)), (a_M_seenBy, .inl (K 0, 200, .inl u20)), (a_M_seenWords, .inl (K 0, 200, .inl u21)), (a_M_turns, .inl (K 0, 200, .inl u22))] H := hP
      have hD := uDPJ hP hD
      refine lv_iinc (v := nI (j1 + 1)) (lv' := [(5, .int (nI (j1 + 1))), (0, .ref a_M), (1, .int (nI x0)), (2, .int x1), (3, .int (nI x2)), (4, .int x3)]) hx hb dX2_show_37 hl (k := 0) rfl (nI_1 _) (by decide) rfl (fun ls hl => ?_)
      refine lv_goto (tgt := 3) hx hb dX2_show_40 (by decide) ?_
      refine lv_pc (q := 3) rfl ?_
      refine W.widen (k := 0) (n := 0) (Nat.le_of_ble_eq_true rfl) (Nat.le_of_ble_eq_true rfl) ?_
      exact ih3 (j1 + 1) u16 u17 u18 u19 u20 u21 u22 (by omega) w23 w24 w25 w26 w27 w28 (by omega) _ _ _ (uSub hP [0, 1, 2, 3, 4, 5, 6] rfl) (hD.sub [0, 1, 2, 3, 4, 5, 6] rfl rfl) hS (lv_sub hl [0, 1, 2, 3, 4, 5] rfl)
  refine lv_pc (q := 3) rfl ?_
  refine W.widen (k := 0) (n := 0) (Nat.le_of_ble_eq_true rfl) (Nat.le_of_ble_eq_true rfl) ?_
  exact L11 ((12 - 0) + 1) 0 v_M_spent f_M_tallies f_M_seenMinutes f_M_seenFrom f_M_seenBy f_M_seenWords f_M_turns (by omega) hv_M_spent r_M_seenFrom r_M_seenBy r_M_seenWords r_M_turns i_uT0 (Nat.lt_succ_self _) _ _ _ hP hD hS hl
def qwX2_nextOrder (a_M : Nat) (v_M_given : Int32) (v_M_spent : Int32) (a_RA : Nat) (v_RA_words : Nat) (v_RA_likes : Int32) (v_RA_orders : Nat) (v_RA_minutes : Int32) (v_RA_look : Int32) (a_RA_orderPosts : Nat) (f_RA_orderPosts : Nat → Int32) (a_RA_orderWords : Nat) (f_RA_orderWords : Nat → Int32) (a_RA_orderTwice : Nat) (f_RA_orderTwice : Nat → Int32) (a_M_ordersDone : Nat) (f_M_ordersDone : Nat → Int32) (a_M_hearings : Nat) (f_M_hearings : Nat → Option Nat) (a_M_h3 : Nat) (f_M_h3 : Nat → Int32) (a_L : Nat) (a_M_tallies : Nat) (a_M_busyTill : Nat) (a_M_deafFrom : Nat) (a_M_seenMinutes : Nat) (a_M_seenFrom : Nat) (a_M_seenBy : Nat) (a_M_seenWords : Nat) (a_M_turns : Nat) (a_RA_names : Nat) (a_RA_rows : Nat) (a_RA_lengths : Nat) (a_RA_dim : Nat) (a_RA_actCounts : Nat) (a_RA_acts : Nat) (a_RA_actNumbers : Nat) (a_RA_actPosts : Nat) (a_M_h0 : Nat) (a_M_h1 : Nat) (a_M_h2 : Nat) (x0 : Nat) (x1 : Nat) : Int32 → (Unit) → Prop := (fun (r : Int32) (u : Unit) => ((r = (-1)) ∨ ((∃ a : Nat, a < v_RA_orders ∧ r = nI a))))
def vwX2_nextOrder (K : Nat → ClassId) (a_M : Nat) (v_M_given : Int32) (v_M_spent : Int32) (a_RA : Nat) (v_RA_words : Nat) (v_RA_likes : Int32) (v_RA_orders : Nat) (v_RA_minutes : Int32) (v_RA_look : Int32) (a_RA_orderPosts : Nat) (f_RA_orderPosts : Nat → Int32) (a_RA_orderWords : Nat) (f_RA_orderWords : Nat → Int32) (a_RA_orderTwice : Nat) (f_RA_orderTwice : Nat → Int32) (a_M_ordersDone : Nat) (f_M_ordersDone : Nat → Int32) (a_M_hearings : Nat) (f_M_hearings : Nat → Option Nat) (a_M_h3 : Nat) (f_M_h3 : Nat → Int32) (a_L : Nat) (a_M_tallies : Nat) (a_M_busyTill : Nat) (a_M_deafFrom : Nat) (a_M_seenMinutes : Nat) (a_M_seenFrom : Nat) (a_M_seenBy : Nat) (a_M_seenWords : Nat) (a_M_turns : Nat) (a_RA_names : Nat) (a_RA_rows : Nat) (a_RA_lengths : Nat) (a_RA_dim : Nat) (a_RA_actCounts : Nat) (a_RA_acts : Nat) (a_RA_actNumbers : Nat) (a_RA_actPosts : Nat) (a_M_h0 : Nat) (a_M_h1 : Nat) (a_M_h2 : Nat) (x0 : Nat) (x1 : Nat) : (Unit) → va_W := (fun (u : Unit) => [(a_M, .inr (2, [.ref a_L, .ref a_RA, .int v_M_given, .int v_M_spent, .ref a_M_tallies, .ref a_M_hearings, .ref a_M_ordersDone, .ref a_M_busyTill, .ref a_M_deafFrom, .ref a_M_seenMinutes, .ref a_M_seenFrom, .ref a_M_seenBy, .ref a_M_seenWords, .ref a_M_turns])), (a_RA, .inr (7, [.ref a_RA_names, .ref a_RA_rows, .ref a_RA_lengths, .ref a_RA_dim, .ref a_RA_orderPosts, .ref a_RA_orderWords, .ref a_RA_orderTwice, .ref a_RA_actCounts, .ref a_RA_acts, .ref a_RA_actNumbers, .ref a_RA_actPosts, .int (nI v_RA_words), .int v_RA_likes, .int (nI v_RA_orders), .int v_RA_minutes, .int v_RA_look])), (a_RA_orderPosts, .inl (K 0, 16, .inl f_RA_orderPosts)), (a_RA_orderWords, .inl (K 0, 16, .inl f_RA_orderWords)), (a_RA_orderTwice, .inl (K 1, 16, .inl f_RA_orderTwice)), (a_M_ordersDone, .inl (K 0, 12, .inl f_M_ordersDone)), (a_M_hearings, .inl (K 3, 4, .inr (.inr (.inr (.inr f_M_hearings))))), (a_M_h3, .inl (K 0, 120, .inl f_M_h3))])
set_option maxHeartbeats 4000000 in
set_option maxRecDepth 100000 in
theorem wX2_nextOrder (l : Launch) (D : va_G) (K : Nat → ClassId) (sz : Nat) (a_M : Nat) (v_M_given : Int32) (v_M_spent : Int32) (a_RA : Nat) (v_RA_words : Nat) (v_RA_likes : Int32) (v_RA_orders : Nat) (v_RA_minutes : Int32) (v_RA_look : Int32) (a_RA_orderPosts : Nat) (f_RA_orderPosts : Nat → Int32) (a_RA_orderWords : Nat) (f_RA_orderWords : Nat → Int32) (a_RA_orderTwice : Nat) (f_RA_orderTwice : Nat → Int32) (a_M_ordersDone : Nat) (f_M_ordersDone : Nat → Int32) (a_M_hearings : Nat) (f_M_hearings : Nat → Option Nat) (a_M_h3 : Nat) (f_M_h3 : Nat → Int32) (a_L : Nat) (a_M_tallies : Nat) (a_M_busyTill : Nat) (a_M_deafFrom : Nat) (a_M_seenMinutes : Nat) (a_M_seenFrom : Nat) (a_M_seenBy : Nat) (a_M_seenWords : Nat) (a_M_turns : Nat) (a_RA_names : Nat) (a_RA_rows : Nat) (a_RA_lengths : Nat) (a_RA_dim : Nat) (a_RA_actCounts : Nat) (a_RA_acts : Nat) (a_RA_actNumbers : Nat) (a_RA_actPosts : Nat) (a_M_h0 : Nat) (a_M_h1 : Nat) (a_M_h2 : Nat) (x0 : Nat) (x1 : Nat) (hv_M_given : v_M_given = 0 ∨ v_M_given = 1) (hv_M_spent : v_M_spent = 0 ∨ v_M_spent = 1) (hv_RA_words : v_RA_words ≤ 10) (hv_RA_orders : v_RA_orders ≤ 16) (b_RA_orderTwice : ∀ k, f_RA_orderTwice k = 0 ∨ f_RA_orderTwice k = 1) (k_M_hearings_0 : f_M_hearings 0 = some a_M_h0) (k_M_hearings_1 : f_M_hearings 1 = some a_M_h1) (k_M_hearings_2 : f_M_hearings 2 = some a_M_h2) (k_M_hearings_3 : f_M_hearings 3 = some a_M_h3) (hx0 : x0 < 12) (hx1 : x1 < 10) : uMi l yX2_nextOrder cX2_nextOrder 7 (some .int) { frames := 1, cells := 0, slots := 0, locals := 20 } [.ref a_M, .int (nI x0), .int (nI x1)] D K [(a_M, .inr (2, [.ref a_L, .ref a_RA, .int v_M_given, .int v_M_spent, .ref a_M_tallies, .ref a_M_hearings, .ref a_M_ordersDone, .ref a_M_busyTill, .ref a_M_deafFrom, .ref a_M_seenMinutes, .ref a_M_seenFrom, .ref a_M_seenBy, .ref a_M_seenWords, .ref a_M_turns])), (a_RA, .inr (7, [.ref a_RA_names, .ref a_RA_rows, .ref a_RA_lengths, .ref a_RA_dim, .ref a_RA_orderPosts, .ref a_RA_orderWords, .ref a_RA_orderTwice, .ref a_RA_actCounts, .ref a_RA_acts, .ref a_RA_actNumbers, .ref a_RA_actPosts, .int (nI v_RA_words), .int v_RA_likes, .int (nI v_RA_orders), .int v_RA_minutes, .int v_RA_look])), (a_RA_orderPosts, .inl (K 0, 16, .inl f_RA_orderPosts)), (a_RA_orderWords, .inl (K 0, 16, .inl f_RA_orderWords)), (a_RA_orderTwice, .inl (K 1, 16, .inl f_RA_orderTwice)), (a_M_ordersDone, .inl (K 0, 12, .inl f_M_ordersDone)), (a_M_hearings, .inl (K 3, 4, .inr (.inr (.inr (.inr f_M_hearings))))), (a_M_h3, .inl (K 0, 120, .inl f_M_h3))] sz (qwX2_nextOrder a_M v_M_given v_M_spent a_RA v_RA_words v_RA_likes v_RA_orders v_RA_minutes v_RA_look a_RA_orderPosts f_RA_orderPosts a_RA_orderWords f_RA_orderWords a_RA_orderTwice f_RA_orderTwice a_M_ordersDone f_M_ordersDone a_M_hearings f_M_hearings a_M_h3 f_M_h3 a_L a_M_tallies a_M_busyTill a_M_deafFrom a_M_seenMinutes a_M_seenFrom a_M_seenBy a_M_seenWords a_M_turns a_RA_names a_RA_rows a_RA_lengths a_RA_dim a_RA_actCounts a_RA_acts a_RA_actNumbers a_RA_actPosts a_M_h0 a_M_h1 a_M_h2 x0 x1) (vwX2_nextOrder K a_M v_M_given v_M_spent a_RA v_RA_words v_RA_likes v_RA_orders v_RA_minutes v_RA_look a_RA_orderPosts f_RA_orderPosts a_RA_orderWords f_RA_orderWords a_RA_orderTwice f_RA_orderTwice a_M_ordersDone f_M_ordersDone a_M_hearings f_M_hearings a_M_h3 f_M_h3 a_L a_M_tallies a_M_busyTill a_M_deafFrom a_M_seenMinutes a_M_seenFrom a_M_seenBy a_M_seenWords a_M_turns a_RA_names a_RA_rows a_RA_lengths a_RA_dim a_RA_actCounts a_RA_acts a_RA_actNumbers a_RA_actPosts a_M_h0 a_M_h1 a_M_h2 x0 x1) := by
  refine uMet (Qc := uQi D (qwX2_nextOrder a_M v_M_given v_M_spent a_RA v_RA_words v_RA_likes v_RA_orders v_RA_minutes v_RA_look a_RA_orderPosts f_RA_orderPosts a_RA_orderWords f_RA_orderWords a_RA_orderTwice f_RA_orderTwice a_M_ordersDone f_M_ordersDone a_M_hearings f_M_hearings a_M_h3 f_M_h3 a_L a_M_tallies a_M_busyTill a_M_deafFrom a_M_seenMinutes a_M_seenFrom a_M_seenBy a_M_seenWords a_M_turns a_RA_names a_RA_rows a_RA_lengths a_RA_dim a_RA_actCounts a_RA_acts a_RA_actNumbers a_RA_actPosts a_M_h0 a_M_h1 a_M_h2 x0 x1) (vwX2_nextOrder K a_M v_M_given v_M_spent a_RA v_RA_words v_RA_likes v_RA_orders v_RA_minutes v_RA_look a_RA_orderPosts f_RA_orderPosts a_RA_orderWords f_RA_orderWords a_RA_orderTwice f_RA_orderTwice a_M_ordersDone f_M_ordersDone a_M_hearings f_M_hearings a_M_h3 f_M_h3 a_L a_M_tallies a_M_busyTill a_M_deafFrom a_M_seenMinutes a_M_seenFrom a_M_seenBy a_M_seenWords a_M_turns a_RA_names a_RA_rows a_RA_lengths a_RA_dim a_RA_actCounts a_RA_acts a_RA_actNumbers a_RA_actPosts a_M_h0 a_M_h1 a_M_h2 x0 x1)) (ret := (some .int)) (by decide) (Nat.le_of_ble_eq_true rfl) ?_
  intro p e s m below meth c A ls hAe hsz B hP hD hS hl
  have hx := B.1
  have hb := B.2.1
  have hl : lv_has ls 7 [(0, .ref a_M), (1, .int (nI x0)), (2, .int (nI x1))] := hl
  refine lv_aload_n hx hb dX2_nextOrder_0 rfl (lv_at hl 0 rfl) ?_
  refine uGet (ci := 2) (C := RX2) (T := TX2) (N := 14) (v := .ref a_M_hearings) B inlX2 hP 0 rfl rfl 5 rfl mfl_X2_24 rfl rfl dX2_nextOrder_1 ?_
  refine lv_iconst (v := 3) hx hb dX2_nextOrder_4 (by decide) ?_
  refine uAald (i := 3) (j := 3) B hP 6 rfl (by decide) rfl k_M_hearings_3 dX2_nextOrder_5 ?_
  refine lv_iload_n hx hb dX2_nextOrder_6 rfl (lv_at hl 1 rfl) ?_
  refine lv_pc (q := 7) rfl ?_
  refine lv_bipush (v := 10) hx hb dX2_nextOrder_7 (by decide) ?_
  refine lv_imul hx hb dX2_nextOrder_9 ?_
  refine lv_fixi (y := (nI (x0 * 10))) (by rw [show (10 : Int32) = nI 10 from rfl, pk_mul]) ?_
  refine lv_iload_n hx hb dX2_nextOrder_10 rfl (lv_at hl 2 rfl) ?_
  refine lv_iadd hx hb dX2_nextOrder_11 ?_
  refine lv_fixi (y := (nI ((x0 * 10) + x1))) (by rw [nI_add]) ?_
  refine uIald (i := (nI ((x0 * 10) + x1))) (j := (x0 * 10) + x1) B hP 7 rfl (nI_in (by omega) (by omega)) (nI_clamp (by omega)) dX2_nextOrder_12 ?_
  refine uSi (As := [.int (f_M_h3 ((x0 * 10) + x1))]) (rest := []) (wr := [(a_M, .inr (2, [.ref a_L, .ref a_RA, .int v_M_given, .int v_M_spent, .ref a_M_tallies, .ref a_M_hearings, .ref a_M_ordersDone, .ref a_M_busyTill, .ref a_M_deafFrom, .ref a_M_seenMinutes, .ref a_M_seenFrom, .ref a_M_seenBy, .ref a_M_seenWords, .ref a_M_turns])), (a_RA, .inr (7, [.ref a_RA_names, .ref a_RA_rows, .ref a_RA_lengths, .ref a_RA_dim, .ref a_RA_orderPosts, .ref a_RA_orderWords, .ref a_RA_orderTwice, .ref a_RA_actCounts, .ref a_RA_acts, .ref a_RA_actNumbers, .ref a_RA_actPosts, .int (nI v_RA_words), .int v_RA_likes, .int (nI v_RA_orders), .int v_RA_minutes, .int v_RA_look])), (a_RA_orderPosts, .inl (K 0, 16, .inl f_RA_orderPosts)), (a_RA_orderWords, .inl (K 0, 16, .inl f_RA_orderWords)), (a_RA_orderTwice, .inl (K 1, 16, .inl f_RA_orderTwice)), (a_M_ordersDone, .inl (K 0, 12, .inl f_M_ordersDone)), (a_M_hearings, .inl (K 3, 4, .inr (.inr (.inr (.inr f_M_hearings))))), (a_M_h3, .inl (K 0, 120, .inl f_M_h3))]) [] B hl.1 hP hD hS [] [0, 1, 2, 3, 4, 5, 6, 7] rfl rfl rfl (wJ6_bitCount_0f7a4 l D K _ (f_M_h3 ((x0 * 10) + x1))) wd_J6_bitCount_0f7a4 mml_X2_101 rfl rfl ⟨Nat.le_of_ble_eq_true rfl, Nat.le_of_ble_eq_true rfl⟩ (Nat.le_of_ble_eq_true rfl) ⟨Nat.le_of_ble_eq_true rfl, Nat.le_of_ble_eq_true rfl⟩ dX2_nextOrder_13 (fun r1 u H locs hw hP hD hS => ?_)
  try dsimp only at hw
  have hP : va_P D vwCl [(a_M, .inr (2, [.ref a_L, .ref a_RA, .int v_M_given, .int v_M_spent, .ref a_M_tallies, .ref a_M_hearings, .ref a_M_ordersDone, .ref a_M_busyTill, .ref a_M_deafFrom, .ref a_M_seenMinutes, .ref a_M_seenFrom, .ref a_M_seenBy, .ref a_M_seenWords, .ref a_M_turns])), (a_RA, .inr (7, [.ref a_RA_names, .ref a_RA_rows, .ref a_RA_lengths, .ref a_RA_dim, .ref a_RA_orderPosts, .ref a_RA_orderWords, .ref a_RA_orderTwice, .ref a_RA_actCounts, .ref a_RA_acts, .ref a_RA_actNumbers, .ref a_RA_actPosts, .int (nI v_RA_words), .int v_RA_likes, .int (nI v_RA_orders), .int v_RA_minutes, .int v_RA_look])), (a_RA_orderPosts, .inl (K 0, 16, .inl f_RA_orderPosts)), (a_RA_orderWords, .inl (K 0, 16, .inl f_RA_orderWords)), (a_RA_orderTwice, .inl (K 1, 16, .inl f_RA_orderTwice)), (a_M_ordersDone, .inl (K 0, 12, .inl f_M_ordersDone)), (a_M_hearings, .inl (K 3, 4, .inr (.inr (.inr (.inr f_M_hearings))))), (a_M_h3, .inl (K 0, 120, .inl f_M_h3))] H := hP
  have hD := uDPJ hP hD
  refine lv_pc (q := 16) rfl ?_
  refine lv_iconst (v := 2) hx hb dX2_nextOrder_16 (by decide) ?_
  refine lv_icmp_lt (tgt := 24) hx hb dX2_nextOrder_17 (by decide) (fun c2 => ?_) (fun c2 => ?_)
  · refine lv_iconst (v := 0) hx hb dX2_nextOrder_24 (by decide) ?_
    refine lv_istore_n (lv' := [(3, .int 0), (0, .ref a_M), (1, .int (nI x0)), (2, .int (nI x1))]) hx hb dX2_nextOrder_25 rfl hl (by decide) rfl (fun ls hl => ?_)
    refine lv_iconst (v := 0) hx hb dX2_nextOrder_26 (by decide) ?_
    refine lv_istore (lv' := [(4, .int 0), (3, .int 0), (0, .ref a_M), (1, .int (nI x0)), (2, .int (nI x1))]) hx hb dX2_nextOrder_27 hl (by decide) rfl (fun ls hl => ?_)
    have L5 : ∀ (n9 : Nat) (j3 : Nat), (j3 ≤ v_RA_orders) → v_RA_orders - j3 < n9 → ∀ (H : Heap) (locs : List Loc) (ls : Array Slot), va_P D vwCl [(a_M, .inr (2, [.ref a_L, .ref a_RA, .int v_M_given, .int v_M_spent, .ref a_M_tallies, .ref a_M_hearings, .ref a_M_ordersDone, .ref a_M_busyTill, .ref a_M_deafFrom, .ref a_M_seenMinutes, .ref a_M_seenFrom, .ref a_M_seenBy, .ref a_M_seenWords, .ref a_M_turns])), (a_RA, .inr (7, [.ref a_RA_names, .ref a_RA_rows, .ref a_RA_lengths, .ref a_RA_dim, .ref a_RA_orderPosts, .ref a_RA_orderWords, .ref a_RA_orderTwice, .ref a_RA_actCounts, .ref a_RA_acts, .ref a_RA_actNumbers, .ref a_RA_actPosts, .int (nI v_RA_words), .int v_RA_likes, .int (nI v_RA_orders), .int v_RA_minutes, .int v_RA_look])), (a_RA_orderPosts, .inl (K 0, 16, .inl f_RA_orderPosts)), (a_RA_orderWords, .inl (K 0, 16, .inl f_RA_orderWords)), (a_RA_orderTwice, .inl (K 1, 16, .inl f_RA_orderTwice)), (a_M_ordersDone, .inl (K 0, 12, .inl f_M_ordersDone)), (a_M_hearings, .inl (K 3, 4, .inr (.inr (.inr (.inr f_M_hearings))))), (a_M_h3, .inl (K 0, 120, .inl f_M_h3))] H → va_D A [(a_M, .inr (2, [.ref a_L, .ref a_RA, .int v_M_given, .int v_M_spent, .ref a_M_tallies, .ref a_M_hearings, .ref a_M_ordersDone, .ref a_M_busyTill, .ref a_M_deafFrom, .ref a_M_seenMinutes, .ref a_M_seenFrom, .ref a_M_seenBy, .ref a_M_seenWords, .ref a_M_turns])), (a_RA, .inr (7, [.ref a_RA_names, .ref a_RA_rows, .ref a_RA_lengths, .ref a_RA_dim, .ref a_RA_orderPosts, .ref a_RA_orderWords, .ref a_RA_orderTwice, .ref a_RA_actCounts, .ref a_RA_acts, .ref a_RA_actNumbers, .ref a_RA_actPosts, .int (nI v_RA_words), .int v_RA_likes, .int (nI v_RA_orders), .int v_RA_minutes, .int v_RA_look])), (a_RA_orderPosts, .inl (K 0, 16, .inl f_RA_orderPosts)), (a_RA_orderWords, .inl (K 0, 16, .inl f_RA_orderWords)), (a_RA_orderTwice, .inl (K 1, 16, .inl f_RA_orderTwice)), (a_M_ordersDone, .inl (K 0, 12, .inl f_M_ordersDone)), (a_M_hearings, .inl (K 3, 4, .inr (.inr (.inr (.inr f_M_hearings))))), (a_M_h3, .inl (K 0, 120, .inl f_M_h3))] → va_S A s.heap H locs → lv_has ls 7 [(4, .int (nI j3)), (3, .int 0), (0, .ref a_M), (1, .int (nI x0)), (2, .int (nI x1))] → W p l e { frames := 1, cells := 0, slots := 0, locals := 20 } s m ([.ref a_M, .int (nI x0), .int (nI x1)] : List Value).toArray below meth c H locs 0 0 (MQ below (uQi D (qwX2_nextOrder a_M v_M_given v_M_spent a_RA v_RA_words v_RA_likes v_RA_orders v_RA_minutes v_RA_look a_RA_orderPosts f_RA_orderPosts a_RA_orderWords f_RA_orderWords a_RA_orderTwice f_RA_orderTwice a_M_ordersDone f_M_ordersDone a_M_hearings f_M_hearings a_M_h3 f_M_h3 a_L a_M_tallies a_M_busyTill a_M_deafFrom a_M_seenMinutes a_M_seenFrom a_M_seenBy a_M_seenWords a_M_turns a_RA_names a_RA_rows a_RA_lengths a_RA_dim a_RA_actCounts a_RA_acts a_RA_actNumbers a_RA_actPosts a_M_h0 a_M_h1 a_M_h2 x0 x1) (vwX2_nextOrder K a_M v_M_given v_M_spent a_RA v_RA_words v_RA_likes v_RA_orders v_RA_minutes v_RA_look a_RA_orderPosts f_RA_orderPosts a_RA_orderWords f_RA_orderWords a_RA_orderTwice f_RA_orderTwice a_M_ordersDone f_M_ordersDone a_M_hearings f_M_hearings a_M_h3 f_M_h3 a_L a_M_tallies a_M_busyTill a_M_deafFrom a_M_seenMinutes a_M_seenFrom a_M_seenBy a_M_seenWords a_M_turns a_RA_names a_RA_rows a_RA_lengths a_RA_dim a_RA_actCounts a_RA_acts a_RA_actNumbers a_RA_actPosts a_M_h0 a_M_h1 a_M_h2 x0 x1) A) ([.ref a_M, .int (nI x0), .int (nI x1)] : List Value).toArray s 0 0 A) (F0 m 29 ls []) := by
      intro n9
      induction n9 with
      | zero => intros; exact absurd ‹_ < 0› (Nat.not_lt_zero _)
      | succ n29_ ih29 =>
        intro j3 hj3 hm29 H locs ls hP hD hS hl
        refine lv_pc (q := 29) rfl ?_
        refine lv_iload hx hb dX2_nextOrder_29 (lv_at hl 0 rfl) ?_
        refine lv_aload_n hx hb dX2_nextOrder_31 rfl (lv_at hl 2 rfl) ?_
        refine uGet (ci := 2) (C := RX2) (T := TX2) (N := 14) (v := .ref a_RA) B inlX2 hP 0 rfl rfl 1 rfl mfl_X2_55 rfl rfl dX2_nextOrder_32 ?_
        refine uGet (ci := 7) (C := RX7) (T := TX7) (N := 16) (v := .int (nI v_RA_orders)) B inlX7 hP 1 rfl rfl 13 rfl mfl_X2_104 rfl rfl dX2_nextOrder_35 ?_
        refine lv_icmp_ge (tgt := 147) hx hb dX2_nextOrder_38 (by decide) (fun c6 => ?_) (fun c6 => ?_)
        · have k_6 : v_RA_orders ≤ j3 := (nI_leI (a := v_RA_orders) (b := j3) (by omega) (by omega)).mp c6
          refine lv_iconst (v := (-1)) hx hb dX2_nextOrder_147 (by decide) ?_
          refine lv_pc (q := 148) rfl ?_
          exact uRi () B (Or.inl rfl) (uSub hP [0, 1, 2, 3, 4, 5, 6, 7] rfl) (hD.sub [0, 1, 2, 3, 4, 5, 6, 7] rfl rfl) hS dX2_nextOrder_148
        have k_6 : ¬ v_RA_orders ≤ j3 := fun h9 => c6 ((nI_leI (a := v_RA_orders) (b := j3) (by omega) (by omega)).mpr h9)
        refine lv_aload_n hx hb dX2_nextOrder_41 rfl (lv_at hl 2 rfl) ?_
        refine lv_pc (q := 42) rfl ?_
        refine uGet (ci := 2) (C := RX2) (T := TX2) (N := 14) (v := .ref a_RA) B inlX2 hP 0 rfl rfl 1 rfl mfl_X2_55 rfl rfl dX2_nextOrder_42 ?_
        refine uGet (ci := 7) (C := RX7) (T := TX7) (N := 16) (v := .ref a_RA_orderPosts) B inlX7 hP 1 rfl rfl 4 rfl mfl_X2_108 rfl rfl dX2_nextOrder_45 ?_
        refine lv_iload hx hb dX2_nextOrder_48 (lv_at hl 0 rfl) ?_
        refine uIald (i := (nI j3)) (j := j3) B hP 2 rfl (nI_in (by omega) (by omega)) (nI_clamp (by omega)) dX2_nextOrder_50 ?_
        refine lv_iconst (v := (-1)) hx hb dX2_nextOrder_51 (by decide) ?_
        refine lv_icmp_eq (tgt := 69) hx hb dX2_nextOrder_52 (by decide) (fun c7 => ?_) (fun c7 => ?_)
        · refine lv_pc (q := 69) rfl ?_
          refine lv_iconst (v := 1) hx hb dX2_nextOrder_69 (by decide) ?_
          refine lv_goto (tgt := 74) hx hb dX2_nextOrder_70 (by decide) ?_
          refine lv_istore (lv' := [(5, .int 1), (4, .int (nI j3)), (3, .int 0), (0, .ref a_M), (1, .int (nI x0)), (2, .int (nI x1))]) hx hb dX2_nextOrder_74 hl (by decide) rfl (fun ls hl => ?_)
          refine lv_aload_n hx hb dX2_nextOrder_76 rfl (lv_at hl 3 rfl) ?_
          refine uGet (ci := 2) (C := RX2) (T := TX2) (N := 14) (v := .ref a_M_ordersDone) B inlX2 hP 0 rfl rfl 6 rfl mfl_X2_27 rfl rfl dX2_nextOrder_77 ?_
          refine lv_iload_n hx hb dX2_nextOrder_80 rfl (lv_at hl 4 rfl) ?_
          refine lv_pc (q := 81) rfl ?_
          refine uIald (i := (nI x0)) (j := x0) B hP 5 rfl (nI_in (by omega) (by omega)) (nI_clamp (by omega)) dX2_nextOrder_81 ?_
          refine lv_iload hx hb dX2_nextOrder_82 (lv_at hl 1 rfl) ?_
          refine lv_ishr hx hb dX2_nextOrder_84 ?_
          refine lv_iconst (v := 1) hx hb dX2_nextOrder_85 (by decide) ?_
          refine lv_iand hx hb dX2_nextOrder_86 ?_
          refine lv_if_ne (tgt := 94) hx hb dX2_nextOrder_87 (by decide) (fun c8 => ?_) (fun c8 => ?_)
          · refine lv_pc (q := 94) rfl ?_
            refine lv_iconst (v := 0) hx hb dX2_nextOrder_94 (by decide) ?_
            refine lv_istore (lv' := [(6, .int 0), (5, .int 1), (4, .int (nI j3)), (3, .int 0), (0, .ref a_M), (1, .int (nI x0)), (2, .int (nI x1))]) hx hb dX2_nextOrder_95 hl (by decide) rfl (fun ls hl => ?_)
            refine lv_iload hx hb dX2_nextOrder_97 (lv_at hl 1 rfl) ?_
            refine lv_if_eq (tgt := 141) hx hb dX2_nextOrder_99 (by decide) (fun h9 => absurd h9 (by decide)) (fun _ => ?_)
            refine lv_iload hx hb dX2_nextOrder_102 (lv_at hl 0 rfl) ?_
            refine lv_if_eq (tgt := 141) hx hb dX2_nextOrder_104 (by decide) (fun _ => ?_) (fun h9 => absurd (by decide) h9)
            refine lv_pc (q := 141) rfl ?_
            refine lv_iinc (v := nI (j3 + 1)) (lv' := [(4, .int (nI (j3 + 1))), (6, .int 0), (5, .int 1), (3, .int 0), (0, .ref a_M), (1, .int (nI x0)), (2, .int (nI x1))]) hx hb dX2_nextOrder_141 hl (k := 2) rfl (nI_1 _) (by decide) rfl (fun ls hl => ?_)
            refine lv_goto (tgt := 29) hx hb dX2_nextOrder_144 (by decide) ?_
            refine lv_pc (q := 29) rfl ?_
            refine W.widen (k := 0) (n := 0) (Nat.le_of_ble_eq_true rfl) (Nat.le_of_ble_eq_true rfl) ?_
            exact ih29 (j3 + 1) (by omega) (by omega) _ _ _ (uSub hP [0, 1, 2, 3, 4, 5, 6, 7] rfl) (hD.sub [0, 1, 2, 3, 4, 5, 6, 7] rfl rfl) hS (lv_sub hl [0, 3, 4, 5, 6] rfl)
          refine lv_pc (q := 90) rfl ?_
          refine lv_iconst (v := 1) hx hb dX2_nextOrder_90 (by decide) ?_
          refine lv_goto (tgt := 95) hx hb dX2_nextOrder_91 (by decide) ?_
          refine lv_istore (lv' := [(6, .int 1), (5, .int 1), (4, .int (nI j3)), (3, .int 0), (0, .ref a_M), (1, .int (nI x0)), (2, .int (nI x1))]) hx hb dX2_nextOrder_95 hl (by decide) rfl (fun ls hl => ?_)
          refine lv_iload hx hb dX2_nextOrder_97 (lv_at hl 1 rfl) ?_
          refine lv_if_eq (tgt := 141) hx hb dX2_nextOrder_99 (by decide) (fun h9 => absurd h9 (by decide)) (fun _ => ?_)
          refine lv_iload hx hb dX2_nextOrder_102 (lv_at hl 0 rfl) ?_
          refine lv_pc (q := 104) rfl ?_
          refine lv_if_eq (tgt := 141) hx hb dX2_nextOrder_104 (by decide) (fun h9 => absurd h9 (by decide)) (fun _ => ?_)
          refine lv_aload_n hx hb dX2_nextOrder_107 rfl (lv_at hl 4 rfl) ?_
          refine uGet (ci := 2) (C := RX2) (T := TX2) (N := 14) (v := .ref a_RA) B inlX2 hP 0 rfl rfl 1 rfl mfl_X2_55 rfl rfl dX2_nextOrder_108 ?_
          refine uGet (ci := 7) (C := RX7) (T := TX7) (N := 16) (v := .ref a_RA_orderWords) B inlX7 hP 1 rfl rfl 5 rfl mfl_X2_111 rfl rfl dX2_nextOrder_111 ?_
          refine lv_iload hx hb dX2_nextOrder_114 (lv_at hl 2 rfl) ?_
          refine uIald (i := (nI j3)) (j := j3) B hP 3 rfl (nI_in (by omega) (by omega)) (nI_clamp (by omega)) dX2_nextOrder_116 ?_
          refine lv_pc (q := 117) rfl ?_
          refine lv_iload_n hx hb dX2_nextOrder_117 rfl (lv_at hl 6 rfl) ?_
          refine lv_icmp_ne (tgt := 141) hx hb dX2_nextOrder_118 (by decide) (fun c9 => ?_) (fun c9 => ?_)
          · refine lv_iinc (v := nI (j3 + 1)) (lv' := [(4, .int (nI (j3 + 1))), (6, .int 1), (5, .int 1), (3, .int 0), (0, .ref a_M), (1, .int (nI x0)), (2, .int (nI x1))]) hx hb dX2_nextOrder_141 hl (k := 2) rfl (nI_1 _) (by decide) rfl (fun ls hl => ?_)
            refine lv_goto (tgt := 29) hx hb dX2_nextOrder_144 (by decide) ?_
            refine lv_pc (q := 29) rfl ?_
            refine W.widen (k := 0) (n := 0) (Nat.le_of_ble_eq_true rfl) (Nat.le_of_ble_eq_true rfl) ?_
            exact ih29 (j3 + 1) (by omega) (by omega) _ _ _ (uSub hP [0, 1, 2, 3, 4, 5, 6, 7] rfl) (hD.sub [0, 1, 2, 3, 4, 5, 6, 7] rfl rfl) hS (lv_sub hl [0, 3, 4, 5, 6] rfl)
          refine lv_iload_n hx hb dX2_nextOrder_121 rfl (lv_at hl 3 rfl) ?_
          refine lv_if_ne (tgt := 138) hx hb dX2_nextOrder_122 (by decide) (fun h9 => absurd (by decide) h9) (fun _ => ?_)
          refine lv_aload_n hx hb dX2_nextOrder_125 rfl (lv_at hl 4 rfl) ?_
          refine uGet (ci := 2) (C := RX2) (T := TX2) (N := 14) (v := .ref a_RA) B inlX2 hP 0 rfl rfl 1 rfl mfl_X2_55 rfl rfl dX2_nextOrder_126 ?_
          refine lv_pc (q := 129) rfl ?_
          refine uGet (ci := 7) (C := RX7) (T := TX7) (N := 16) (v := .ref a_RA_orderTwice) B inlX7 hP 1 rfl rfl 6 rfl mfl_X2_114 rfl rfl dX2_nextOrder_129 ?_
          refine lv_iload hx hb dX2_nextOrder_132 (lv_at hl 2 rfl) ?_
          refine uZald (i := (nI j3)) (j := j3) B hP 4 rfl (nI_in (by omega) (by omega)) (nI_clamp (by omega)) dX2_nextOrder_134 ?_
          refine lv_if_ne (tgt := 141) hx hb dX2_nextOrder_135 (by decide) (fun c10 => ?_) (fun c10 => ?_)
          · refine lv_iinc (v := nI (j3 + 1)) (lv' := [(4, .int (nI (j3 + 1))), (6, .int 1), (5, .int 1), (3, .int 0), (0, .ref a_M), (1, .int (nI x0)), (2, .int (nI x1))]) hx hb dX2_nextOrder_141 hl (k := 2) rfl (nI_1 _) (by decide) rfl (fun ls hl => ?_)
            refine lv_goto (tgt := 29) hx hb dX2_nextOrder_144 (by decide) ?_
            refine lv_pc (q := 29) rfl ?_
            refine W.widen (k := 0) (n := 0) (Nat.le_of_ble_eq_true rfl) (Nat.le_of_ble_eq_true rfl) ?_
            exact ih29 (j3 + 1) (by omega) (by omega) _ _ _ (uSub hP [0, 1, 2, 3, 4, 5, 6, 7] rfl) (hD.sub [0, 1, 2, 3, 4, 5, 6, 7] rfl rfl) hS (lv_sub hl [0, 3, 4, 5, 6] rfl)
          refine lv_iload hx hb dX2_nextOrder_138 (lv_at hl 2 rfl) ?_
          exact uRi () B (Or.inr ⟨j3, by omega, rfl⟩) (uSub hP [0, 1, 2, 3, 4, 5, 6, 7] rfl) (hD.sub [0, 1, 2, 3, 4, 5, 6, 7] rfl rfl) hS dX2_nextOrder_140
        refine lv_pc (q := 55) rfl ?_
        refine lv_aload_n hx hb dX2_nextOrder_55 rfl (lv_at hl 2 rfl) ?_
        refine uGet (ci := 2) (C := RX2) (T := TX2) (N := 14) (v := .ref a_RA) B inlX2 hP 0 rfl rfl 1 rfl mfl_X2_55 rfl rfl dX2_nextOrder_56 ?_
        refine uGet (ci := 7) (C := RX7) (T := TX7) (N := 16) (v := .ref a_RA_orderPosts) B inlX7 hP 1 rfl rfl 4 rfl mfl_X2_108 rfl rfl dX2_nextOrder_59 ?_
        refine lv_iload hx hb dX2_nextOrder_62 (lv_at hl 0 rfl) ?_
        refine uIald (i := (nI j3)) (j := j3) B hP 2 rfl (nI_in (by omega) (by omega)) (nI_clamp (by omega)) dX2_nextOrder_64 ?_
        refine lv_iload_n hx hb dX2_nextOrder_65 rfl (lv_at hl 3 rfl) ?_
        refine lv_pc (q := 66) rfl ?_
        refine lv_icmp_ne (tgt := 73) hx hb dX2_nextOrder_66 (by decide) (fun c11 => ?_) (fun c11 => ?_)
        · refine lv_iconst (v := 0) hx hb dX2_nextOrder_73 (by decide) ?_
          refine lv_istore (lv' := [(5, .int 0), (4, .int (nI j3)), (3, .int 0), (0, .ref a_M), (1, .int (nI x0)), (2, .int (nI x1))]) hx hb dX2_nextOrder_74 hl (by decide) rfl (fun ls hl => ?_)
          refine lv_aload_n hx hb dX2_nextOrder_76 rfl (lv_at hl 3 rfl) ?_
          refine uGet (ci := 2) (C := RX2) (T := TX2) (N := 14) (v := .ref a_M_ordersDone) B inlX2 hP 0 rfl rfl 6 rfl mfl_X2_27 rfl rfl dX2_nextOrder_77 ?_
          refine lv_iload_n hx hb dX2_nextOrder_80 rfl (lv_at hl 4 rfl) ?_
          refine lv_pc (q := 81) rfl ?_
          refine uIald (i := (nI x0)) (j := x0) B hP 5 rfl (nI_in (by omega) (by omega)) (nI_clamp (by omega)) dX2_nextOrder_81 ?_
          refine lv_iload hx hb dX2_nextOrder_82 (lv_at hl 1 rfl) ?_
          refine lv_ishr hx hb dX2_nextOrder_84 ?_
          refine lv_iconst (v := 1) hx hb dX2_nextOrder_85 (by decide) ?_
          refine lv_iand hx hb dX2_nextOrder_86 ?_
          refine lv_if_ne (tgt := 94) hx hb dX2_nextOrder_87 (by decide) (fun c12 => ?_) (fun c12 => ?_)
          · refine lv_pc (q := 94) rfl ?_
            refine lv_iconst (v := 0) hx hb dX2_nextOrder_94 (by decide) ?_
            refine lv_istore (lv' := [(6, .int 0), (5, .int 0), (4, .int (nI j3)), (3, .int 0), (0, .ref a_M), (1, .int (nI x0)), (2, .int (nI x1))]) hx hb dX2_nextOrder_95 hl (by decide) rfl (fun ls hl => ?_)
            refine lv_iload hx hb dX2_nextOrder_97 (lv_at hl 1 rfl) ?_
            refine lv_if_eq (tgt := 141) hx hb dX2_nextOrder_99 (by decide) (fun _ => ?_) (fun h9 => absurd (by decide) h9)
            refine lv_iinc (v := nI (j3 + 1)) (lv' := [(4, .int (nI (j3 + 1))), (6, .int 0), (5, .int 0), (3, .int 0), (0, .ref a_M), (1, .int (nI x0)), (2, .int (nI x1))]) hx hb dX2_nextOrder_141 hl (k := 2) rfl (nI_1 _) (by decide) rfl (fun ls hl => ?_)
            refine lv_goto (tgt := 29) hx hb dX2_nextOrder_144 (by decide) ?_
            refine lv_pc (q := 29) rfl ?_
            refine W.widen (k := 0) (n := 0) (Nat.le_of_ble_eq_true rfl) (Nat.le_of_ble_eq_true rfl) ?_
            exact ih29 (j3 + 1) (by omega) (by omega) _ _ _ (uSub hP [0, 1, 2, 3, 4, 5, 6, 7] rfl) (hD.sub [0, 1, 2, 3, 4, 5, 6, 7] rfl rfl) hS (lv_sub hl [0, 3, 4, 5, 6] rfl)
          refine lv_pc (q := 90) rfl ?_
          refine lv_iconst (v := 1) hx hb dX2_nextOrder_90 (by decide) ?_
          refine lv_goto (tgt := 95) hx hb dX2_nextOrder_91 (by decide) ?_
          refine lv_istore (lv' := [(6, .int 1), (5, .int 0), (4, .int (nI j3)), (3, .int 0), (0, .ref a_M), (1, .int (nI x0)), (2, .int (nI x1))]) hx hb dX2_nextOrder_95 hl (by decide) rfl (fun ls hl => ?_)
          refine lv_iload hx hb dX2_nextOrder_97 (lv_at hl 1 rfl) ?_
          refine lv_if_eq (tgt := 141) hx hb dX2_nextOrder_99 (by decide) (fun _ => ?_) (fun h9 => absurd (by decide) h9)
          refine lv_iinc (v := nI (j3 + 1)) (lv' := [(4, .int (nI (j3 + 1))), (6, .int 1), (5, .int 0), (3, .int 0), (0, .ref a_M), (1, .int (nI x0)), (2, .int (nI x1))]) hx hb dX2_nextOrder_141 hl (k := 2) rfl (nI_1 _) (by decide) rfl (fun ls hl => ?_)
          refine lv_pc (q := 144) rfl ?_
          refine lv_goto (tgt := 29) hx hb dX2_nextOrder_144 (by decide) ?_
          refine lv_pc (q := 29) rfl ?_
          refine W.widen (k := 0) (n := 0) (Nat.le_of_ble_eq_true rfl) (Nat.le_of_ble_eq_true rfl) ?_
          exact ih29 (j3 + 1) (by omega) (by omega) _ _ _ (uSub hP [0, 1, 2, 3, 4, 5, 6, 7] rfl) (hD.sub [0, 1, 2, 3, 4, 5, 6, 7] rfl rfl) hS (lv_sub hl [0, 3, 4, 5, 6] rfl)
        refine lv_iconst (v := 1) hx hb dX2_nextOrder_69 (by decide) ?_
        refine lv_goto (tgt := 74) hx hb dX2_nextOrder_70 (by decide) ?_
        refine lv_istore (lv' := [(5, .int 1), (4, .int (nI j3)), (3, .int 0), (0, .ref a_M), (1, .int (nI x0)), (2, .int (nI x1))]) hx hb dX2_nextOrder_74 hl (by decide) rfl (fun ls hl => ?_)
        refine lv_aload_n hx hb dX2_nextOrder_76 rfl (lv_at hl 3 rfl) ?_
        refine uGet (ci := 2) (C := RX2) (T := TX2) (N := 14) (v := .ref a_M_ordersDone) B inlX2 hP 0 rfl rfl 6 rfl mfl_X2_27 rfl rfl dX2_nextOrder_77 ?_
        refine lv_pc (q := 80) rfl ?_
        refine lv_iload_n hx hb dX2_nextOrder_80 rfl (lv_at hl 4 rfl) ?_
        refine uIald (i := (nI x0)) (j := x0) B hP 5 rfl (nI_in (by omega) (by omega)) (nI_clamp (by omega)) dX2_nextOrder_81 ?_
        refine lv_iload hx hb dX2_nextOrder_82 (lv_at hl 1 rfl) ?_
        refine lv_ishr hx hb dX2_nextOrder_84 ?_
        refine lv_iconst (v := 1) hx hb dX2_nextOrder_85 (by decide) ?_
        refine lv_iand hx hb dX2_nextOrder_86 ?_
        refine lv_pc (q := 87) rfl ?_
        refine lv_if_ne (tgt := 94) hx hb dX2_nextOrder_87 (by decide) (fun c13 => ?_) (fun c13 => ?_)
        · refine lv_iconst (v := 0) hx hb dX2_nextOrder_94 (by decide) ?_
          refine lv_istore (lv' := [(6, .int 0), (5, .int 1), (4, .int (nI j3)), (3, .int 0), (0, .ref a_M), (1, .int (nI x0)), (2, .int (nI x1))]) hx hb dX2_nextOrder_95 hl (by decide) rfl (fun ls hl => ?_)
          refine lv_iload hx hb dX2_nextOrder_97 (lv_at hl 1 rfl) ?_
          refine lv_if_eq (tgt := 141) hx hb dX2_nextOrder_99 (by decide) (fun h9 => absurd h9 (by decide)) (fun _ => ?_)
          refine lv_iload hx hb dX2_nextOrder_102 (lv_at hl 0 rfl) ?_
          refine lv_pc (q := 104) rfl ?_
          refine lv_if_eq (tgt := 141) hx hb dX2_nextOrder_104 (by decide) (fun _ => ?_) (fun h9 => absurd (by decide) h9)
          refine lv_iinc (v := nI (j3 + 1)) (lv' := [(4, .int (nI (j3 + 1))), (6, .int 0), (5, .int 1), (3, .int 0), (0, .ref a_M), (1, .int (nI x0)), (2, .int (nI x1))]) hx hb dX2_nextOrder_141 hl (k := 2) rfl (nI_1 _) (by decide) rfl (fun ls hl => ?_)
          refine lv_goto (tgt := 29) hx hb dX2_nextOrder_144 (by decide) ?_
          refine lv_pc (q := 29) rfl ?_
          refine W.widen (k := 0) (n := 0) (Nat.le_of_ble_eq_true rfl) (Nat.le_of_ble_eq_true rfl) ?_
          exact ih29 (j3 + 1) (by omega) (by omega) _ _ _ (uSub hP [0, 1, 2, 3, 4, 5, 6, 7] rfl) (hD.sub [0, 1, 2, 3, 4, 5, 6, 7] rfl rfl) hS (lv_sub hl [0, 3, 4, 5, 6] rfl)
        refine lv_iconst (v := 1) hx hb dX2_nextOrder_90 (by decide) ?_
        refine lv_goto (tgt := 95) hx hb dX2_nextOrder_91 (by decide) ?_
        refine lv_istore (lv' := [(6, .int 1), (5, .int 1), (4, .int (nI j3)), (3, .int 0), (0, .ref a_M), (1, .int (nI x0)), (2, .int (nI x1))]) hx hb dX2_nextOrder_95 hl (by decide) rfl (fun ls hl => ?_)
        refine lv_iload hx hb dX2_nextOrder_97 (lv_at hl 1 rfl) ?_
        refine lv_if_eq (tgt := 141) hx hb dX2_nextOrder_99 (by decide) (fun h9 => absurd h9 (by decide)) (fun _ => ?_)
        refine lv_pc (q := 102) rfl ?_
        refine lv_iload hx hb dX2_nextOrder_102 (lv_at hl 0 rfl) ?_
        refine lv_if_eq (tgt := 141) hx hb dX2_nextOrder_104 (by decide) (fun h9 => absurd h9 (by decide)) (fun _ => ?_)
        refine lv_aload_n hx hb dX2_nextOrder_107 rfl (lv_at hl 4 rfl) ?_
        refine uGet (ci := 2) (C := RX2) (T := TX2) (N := 14) (v := .ref a_RA) B inlX2 hP 0 rfl rfl 1 rfl mfl_X2_55 rfl rfl dX2_nextOrder_108 ?_
        refine uGet (ci := 7) (C := RX7) (T := TX7) (N := 16) (v := .ref a_RA_orderWords) B inlX7 hP 1 rfl rfl 5 rfl mfl_X2_111 rfl rfl dX2_nextOrder_111 ?_
        refine lv_iload hx hb dX2_nextOrder_114 (lv_at hl 2 rfl) ?_
        refine lv_pc (q := 116) rfl ?_
        refine uIald (i := (nI j3)) (j := j3) B hP 3 rfl (nI_in (by omega) (by omega)) (nI_clamp (by omega)) dX2_nextOrder_116 ?_
        refine lv_iload_n hx hb dX2_nextOrder_117 rfl (lv_at hl 6 rfl) ?_
        refine lv_icmp_ne (tgt := 141) hx hb dX2_nextOrder_118 (by decide) (fun c14 => ?_) (fun c14 => ?_)
        · refine lv_iinc (v := nI (j3 + 1)) (lv' := [(4, .int (nI (j3 + 1))), (6, .int 1), (5, .int 1), (3, .int 0), (0, .ref a_M), (1, .int (nI x0)), (2, .int (nI x1))]) hx hb dX2_nextOrder_141 hl (k := 2) rfl (nI_1 _) (by decide) rfl (fun ls hl => ?_)
          refine lv_goto (tgt := 29) hx hb dX2_nextOrder_144 (by decide) ?_
          refine lv_pc (q := 29) rfl ?_
          refine W.widen (k := 0) (n := 0) (Nat.le_of_ble_eq_true rfl) (Nat.le_of_ble_eq_true rfl) ?_
          exact ih29 (j3 + 1) (by omega) (by omega) _ _ _ (uSub hP [0, 1, 2, 3, 4, 5, 6, 7] rfl) (hD.sub [0, 1, 2, 3, 4, 5, 6, 7] rfl rfl) hS (lv_sub hl [0, 3, 4, 5, 6] rfl)
        refine lv_iload_n hx hb dX2_nextOrder_121 rfl (lv_at hl 3 rfl) ?_
        refine lv_if_ne (tgt := 138) hx hb dX2_nextOrder_122 (by decide) (fun h9 => absurd (by decide) h9) (fun _ => ?_)
        refine lv_aload_n hx hb dX2_nextOrder_125 rfl (lv_at hl 4 rfl) ?_
        refine lv_pc (q := 126) rfl ?_
        refine uGet (ci := 2) (C := RX2) (T := TX2) (N := 14) (v := .ref a_RA) B inlX2 hP 0 rfl rfl 1 rfl mfl_X2_55 rfl rfl dX2_nextOrder_126 ?_
        refine uGet (ci := 7) (C := RX7) (T := TX7) (N := 16) (v := .ref a_RA_orderTwice) B inlX7 hP 1 rfl rfl 6 rfl mfl_X2_114 rfl rfl dX2_nextOrder_129 ?_
        refine lv_iload hx hb dX2_nextOrder_132 (lv_at hl 2 rfl) ?_
        refine uZald (i := (nI j3)) (j := j3) B hP 4 rfl (nI_in (by omega) (by omega)) (nI_clamp (by omega)) dX2_nextOrder_134 ?_
        refine lv_if_ne (tgt := 141) hx hb dX2_nextOrder_135 (by decide) (fun c15 => ?_) (fun c15 => ?_)
        · refine lv_iinc (v := nI (j3 + 1)) (lv' := [(4, .int (nI (j3 + 1))), (6, .int 1), (5, .int 1), (3, .int 0), (0, .ref a_M), (1, .int (nI x0)), (2, .int (nI x1))]) hx hb dX2_nextOrder_141 hl (k := 2) rfl (nI_1 _) (by decide) rfl (fun ls hl => ?_)
          refine lv_pc (q := 144) rfl ?_
          refine lv_goto (tgt := 29) hx hb dX2_nextOrder_144 (by decide) ?_
          refine lv_pc (q := 29) rfl ?_
          refine W.widen (k := 0) (n := 0) (Nat.le_of_ble_eq_true rfl) (Nat.le_of_ble_eq_true rfl) ?_
          exact ih29 (j3 + 1) (by omega) (by omega) _ _ _ (uSub hP [0, 1, 2, 3, 4, 5, 6, 7] rfl) (hD.sub [0, 1, 2, 3, 4, 5, 6, 7] rfl rfl) hS (lv_sub hl [0, 3, 4, 5, 6] rfl)
        refine lv_iload hx hb dX2_nextOrder_138 (lv_at hl 2 rfl) ?_
        refine lv_pc (q := 140) rfl ?_
        exact uRi () B (Or.inr ⟨j3, by omega, rfl⟩) (uSub hP [0, 1, 2, 3, 4, 5, 6, 7] rfl) (hD.sub [0, 1, 2, 3, 4, 5, 6, 7] rfl rfl) hS dX2_nextOrder_140
    refine lv_pc (q := 29) rfl ?_
    refine W.widen (k := 0) (n := 0) (Nat.le_of_ble_eq_true rfl) (Nat.le_of_ble_eq_true rfl) ?_
    exact L5 ((v_RA_orders - 0) + 1) 0 (by omega) (Nat.lt_succ_self _) _ _ _ hP hD hS hl
  refine lv_iconst (v := 1) hx hb dX2_nextOrder_20 (by decide) ?_
  refine lv_goto (tgt := 25) hx hb dX2_nextOrder_21 (by decide) ?_
  refine lv_istore_n (lv' := [(3, .int 1), (0, .ref a_M), (1, .int (nI x0)), (2, .int (nI x1))]) hx hb dX2_nextOrder_25 rfl hl (by decide) rfl (fun ls hl => ?_)
  refine lv_iconst (v := 0) hx hb dX2_nextOrder_26 (by decide) ?_
  refine lv_pc (q := 27) rfl ?_
  refine lv_istore (lv' := [(4, .int 0), (3, .int 1), (0, .ref a_M), (1, .int (nI x0)), (2, .int (nI x1))]) hx hb dX2_nextOrder_27 hl (by decide) rfl (fun ls hl => ?_)
  have L18 : ∀ (n9 : Nat) (j16 : Nat), (j16 ≤ v_RA_orders) → v_RA_orders - j16 < n9 → ∀ (H : Heap) (locs : List Loc) (ls : Array Slot), va_P D vwCl [(a_M, .inr (2, [.ref a_L, .ref a_RA, .int v_M_given, .int v_M_spent, .ref a_M_tallies, .ref a_M_hearings, .ref a_M_ordersDone, .ref a_M_busyTill, .ref a_M_deafFrom, .ref a_M_seenMinutes, .ref a_M_seenFrom, .ref a_M_seenBy, .ref a_M_seenWords, .ref a_M_turns])), (a_RA, .inr (7, [.ref a_RA_names, .ref a_RA_rows, .ref a_RA_lengths, .ref a_RA_dim, .ref a_RA_orderPosts, .ref a_RA_orderWords, .ref a_RA_orderTwice, .ref a_RA_actCounts, .ref a_RA_acts, .ref a_RA_actNumbers, .ref a_RA_actPosts, .int (nI v_RA_words), .int v_RA_likes, .int (nI v_RA_orders), .int v_RA_minutes, .int v_RA_look])), (a_RA_orderPosts, .inl (K 0, 16, .inl f_RA_orderPosts)), (a_RA_orderWords, .inl (K 0, 16, .inl f_RA_orderWords)), (a_RA_orderTwice, .inl (K 1, 16, .inl f_RA_orderTwice)), (a_M_ordersDone, .inl (K 0, 12, .inl f_M_ordersDone)), (a_M_hearings, .inl (K 3, 4, .inr (.inr (.inr (.inr f_M_hearings))))), (a_M_h3, .inl (K 0, 120, .inl f_M_h3))] H → va_D A [(a_M, .inr (2, [.ref a_L, .ref a_RA, .int v_M_given, .int v_M_spent, .ref a_M_tallies, .ref a_M_hearings, .ref a_M_ordersDone, .ref a_M_busyTill, .ref a_M_deafFrom, .ref a_M_seenMinutes, .ref a_M_seenFrom, .ref a_M_seenBy, .ref a_M_seenWords, .ref a_M_turns])), (a_RA, .inr (7, [.ref a_RA_names, .ref a_RA_rows, .ref a_RA_lengths, .ref a_RA_dim, .ref a_RA_orderPosts, .ref a_RA_orderWords, .ref a_RA_orderTwice, .ref a_RA_actCounts, .ref a_RA_acts, .ref a_RA_actNumbers, .ref a_RA_actPosts, .int (nI v_RA_words), .int v_RA_likes, .int (nI v_RA_orders), .int v_RA_minutes, .int v_RA_look])), (a_RA_orderPosts, .inl (K 0, 16, .inl f_RA_orderPosts)), (a_RA_orderWords, .inl (K 0, 16, .inl f_RA_orderWords)), (a_RA_orderTwice, .inl (K 1, 16, .inl f_RA_orderTwice)), (a_M_ordersDone, .inl (K 0, 12, .inl f_M_ordersDone)), (a_M_hearings, .inl (K 3, 4, .inr (.inr (.inr (.inr f_M_hearings))))), (a_M_h3, .inl (K 0, 120, .inl f_M_h3))] → va_S A s.heap H locs → lv_has ls 7 [(4, .int (nI j16)), (3, .int 1), (0, .ref a_M), (1, .int (nI x0)), (2, .int (nI x1))] → W p l e { frames := 1, cells := 0, slots := 0, locals := 20 } s m ([.ref a_M, .int (nI x0), .int (nI x1)] : List Value).toArray below meth c H locs 0 0 (MQ below (uQi D (qwX2_nextOrder a_M v_M_given v_M_spent a_RA v_RA_words v_RA_likes v_RA_orders v_RA_minutes v_RA_look a_RA_orderPosts f_RA_orderPosts a_RA_orderWords f_RA_orderWords a_RA_orderTwice f_RA_orderTwice a_M_ordersDone f_M_ordersDone a_M_hearings f_M_hearings a_M_h3 f_M_h3 a_L a_M_tallies a_M_busyTill a_M_deafFrom a_M_seenMinutes a_M_seenFrom a_M_seenBy a_M_seenWords a_M_turns a_RA_names a_RA_rows a_RA_lengths a_RA_dim a_RA_actCounts a_RA_acts a_RA_actNumbers a_RA_actPosts a_M_h0 a_M_h1 a_M_h2 x0 x1) (vwX2_nextOrder K a_M v_M_given v_M_spent a_RA v_RA_words v_RA_likes v_RA_orders v_RA_minutes v_RA_look a_RA_orderPosts f_RA_orderPosts a_RA_orderWords f_RA_orderWords a_RA_orderTwice f_RA_orderTwice a_M_ordersDone f_M_ordersDone a_M_hearings f_M_hearings a_M_h3 f_M_h3 a_L a_M_tallies a_M_busyTill a_M_deafFrom a_M_seenMinutes a_M_seenFrom a_M_seenBy a_M_seenWords a_M_turns a_RA_names a_RA_rows a_RA_lengths a_RA_dim a_RA_actCounts a_RA_acts a_RA_actNumbers a_RA_actPosts a_M_h0 a_M_h1 a_M_h2 x0 x1) A) ([.ref a_M, .int (nI x0), .int (nI x1)] : List Value).toArray s 0 0 A) (F0 m 29 ls []) := by
    intro n9
    induction n9 with
    | zero => intros; exact absurd ‹_ < 0› (Nat.not_lt_zero _)
    | succ n29_ ih29 =>
      intro j16 hj16 hm29 H locs ls hP hD hS hl
      refine lv_iload hx hb dX2_nextOrder_29 (lv_at hl 0 rfl) ?_
      refine lv_aload_n hx hb dX2_nextOrder_31 rfl (lv_at hl 2 rfl) ?_
      refine uGet (ci := 2) (C := RX2) (T := TX2) (N := 14) (v := .ref a_RA) B inlX2 hP 0 rfl rfl 1 rfl mfl_X2_55 rfl rfl dX2_nextOrder_32 ?_
      refine uGet (ci := 7) (C := RX7) (T := TX7) (N := 16) (v := .int (nI v_RA_orders)) B inlX7 hP 1 rfl rfl 13 rfl mfl_X2_104 rfl rfl dX2_nextOrder_35 ?_
      refine lv_icmp_ge (tgt := 147) hx hb dX2_nextOrder_38 (by decide) (fun c19 => ?_) (fun c19 => ?_)
      · have k_19 : v_RA_orders ≤ j16 := (nI_leI (a := v_RA_orders) (b := j16) (by omega) (by omega)).mp c19
        refine lv_pc (q := 147) rfl ?_
        refine lv_iconst (v := (-1)) hx hb dX2_nextOrder_147 (by decide) ?_
        exact uRi () B (Or.inl rfl) (uSub hP [0, 1, 2, 3, 4, 5, 6, 7] rfl) (hD.sub [0, 1, 2, 3, 4, 5, 6, 7] rfl rfl) hS dX2_nextOrder_148
      have k_19 : ¬ v_RA_orders ≤ j16 := fun h9 => c19 ((nI_leI (a := v_RA_orders) (b := j16) (by omega) (by omega)).mpr h9)
      refine lv_pc (q := 41) rfl ?_
      refine lv_aload_n hx hb dX2_nextOrder_41 rfl (lv_at hl 2 rfl) ?_
      refine uGet (ci := 2) (C := RX2) (T := TX2) (N := 14) (v := .ref a_RA) B inlX2 hP 0 rfl rfl 1 rfl mfl_X2_55 rfl rfl dX2_nextOrder_42 ?_
      refine uGet (ci := 7) (C := RX7) (T := TX7) (N := 16) (v := .ref a_RA_orderPosts) B inlX7 hP 1 rfl rfl 4 rfl mfl_X2_108 rfl rfl dX2_nextOrder_45 ?_
      refine lv_iload hx hb dX2_nextOrder_48 (lv_at hl 0 rfl) ?_
      refine uIald (i := (nI j16)) (j := j16) B hP 2 rfl (nI_in (by omega) (by omega)) (nI_clamp (by omega)) dX2_nextOrder_50 ?_
      refine lv_iconst (v := (-1)) hx hb dX2_nextOrder_51 (by decide) ?_
      refine lv_pc (q := 52) rfl ?_
      refine lv_icmp_eq (tgt := 69) hx hb dX2_nextOrder_52 (by decide) (fun c20 => ?_) (fun c20 => ?_)
      · refine lv_iconst (v := 1) hx hb dX2_nextOrder_69 (by decide) ?_
        refine lv_goto (tgt := 74) hx hb dX2_nextOrder_70 (by decide) ?_
        refine lv_istore (lv' := [(5, .int 1), (4, .int (nI j16)), (3, .int 1), (0, .ref a_M), (1, .int (nI x0)), (2, .int (nI x1))]) hx hb dX2_nextOrder_74 hl (by decide) rfl (fun ls hl => ?_)
        refine lv_aload_n hx hb dX2_nextOrder_76 rfl (lv_at hl 3 rfl) ?_
        refine uGet (ci := 2) (C := RX2) (T := TX2) (N := 14) (v := .ref a_M_ordersDone) B inlX2 hP 0 rfl rfl 6 rfl mfl_X2_27 rfl rfl dX2_nextOrder_77 ?_
        refine lv_pc (q := 80) rfl ?_
        refine lv_iload_n hx hb dX2_nextOrder_80 rfl (lv_at hl 4 rfl) ?_
        refine uIald (i := (nI x0)) (j := x0) B hP 5 rfl (nI_in (by omega) (by omega)) (nI_clamp (by omega)) dX2_nextOrder_81 ?_
        refine lv_iload hx hb dX2_nextOrder_82 (lv_at hl 1 rfl) ?_
        refine lv_ishr hx hb dX2_nextOrder_84 ?_
        refine lv_iconst (v := 1) hx hb dX2_nextOrder_85 (by decide) ?_
        refine lv_iand hx hb dX2_nextOrder_86 ?_
        refine lv_pc (q := 87) rfl ?_
        refine lv_if_ne (tgt := 94) hx hb dX2_nextOrder_87 (by decide) (fun c21 => ?_) (fun c21 => ?_)
        · refine lv_iconst (v := 0) hx hb dX2_nextOrder_94 (by decide) ?_
          refine lv_istore (lv' := [(6, .int 0), (5, .int 1), (4, .int (nI j16)), (3, .int 1), (0, .ref a_M), (1, .int (nI x0)), (2, .int (nI x1))]) hx hb dX2_nextOrder_95 hl (by decide) rfl (fun ls hl => ?_)
          refine lv_iload hx hb dX2_nextOrder_97 (lv_at hl 1 rfl) ?_
          refine lv_if_eq (tgt := 141) hx hb dX2_nextOrder_99 (by decide) (fun h9 => absurd h9 (by decide)) (fun _ => ?_)
          refine lv_iload hx hb dX2_nextOrder_102 (lv_at hl 0 rfl) ?_
          refine lv_pc (q := 104) rfl ?_
          refine lv_if_eq (tgt := 141) hx hb dX2_nextOrder_104 (by decide) (fun _ => ?_) (fun h9 => absurd (by decide) h9)
          refine lv_iinc (v := nI (j16 + 1)) (lv' := [(4, .int (nI (j16 + 1))), (6, .int 0), (5, .int 1), (3, .int 1), (0, .ref a_M), (1, .int (nI x0)), (2, .int (nI x1))]) hx hb dX2_nextOrder_141 hl (k := 2) rfl (nI_1 _) (by decide) rfl (fun ls hl => ?_)
          refine lv_goto (tgt := 29) hx hb dX2_nextOrder_144 (by decide) ?_
          refine lv_pc (q := 29) rfl ?_
          refine W.widen (k := 0) (n := 0) (Nat.le_of_ble_eq_true rfl) (Nat.le_of_ble_eq_true rfl) ?_
          exact ih29 (j16 + 1) (by omega) (by omega) _ _ _ (uSub hP [0, 1, 2, 3, 4, 5, 6, 7] rfl) (hD.sub [0, 1, 2, 3, 4, 5, 6, 7] rfl rfl) hS (lv_sub hl [0, 3, 4, 5, 6] rfl)
        refine lv_iconst (v := 1) hx hb dX2_nextOrder_90 (by decide) ?_
        refine lv_goto (tgt := 95) hx hb dX2_nextOrder_91 (by decide) ?_
        refine lv_istore (lv' := [(6, .int 1), (5, .int 1), (4, .int (nI j16)), (3, .int 1), (0, .ref a_M), (1, .int (nI x0)), (2, .int (nI x1))]) hx hb dX2_nextOrder_95 hl (by decide) rfl (fun ls hl => ?_)
        refine lv_iload hx hb dX2_nextOrder_97 (lv_at hl 1 rfl) ?_
        refine lv_if_eq (tgt := 141) hx hb dX2_nextOrder_99 (by decide) (fun h9 => absurd h9 (by decide)) (fun _ => ?_)
        refine lv_pc (q := 102) rfl ?_
        refine lv_iload hx hb dX2_nextOrder_102 (lv_at hl 0 rfl) ?_
        refine lv_if_eq (tgt := 141) hx hb dX2_nextOrder_104 (by decide) (fun h9 => absurd h9 (by decide)) (fun _ => ?_)
        refine lv_aload_n hx hb dX2_nextOrder_107 rfl (lv_at hl 4 rfl) ?_
        refine uGet (ci := 2) (C := RX2) (T := TX2) (N := 14) (v := .ref a_RA) B inlX2 hP 0 rfl rfl 1 rfl mfl_X2_55 rfl rfl dX2_nextOrder_108 ?_
        refine uGet (ci := 7) (C := RX7) (T := TX7) (N := 16) (v := .ref a_RA_orderWords) B inlX7 hP 1 rfl rfl 5 rfl mfl_X2_111 rfl rfl dX2_nextOrder_111 ?_
        refine lv_iload hx hb dX2_nextOrder_114 (lv_at hl 2 rfl) ?_
        refine lv_pc (q := 116) rfl ?_
        refine uIald (i := (nI j16)) (j := j16) B hP 3 rfl (nI_in (by omega) (by omega)) (nI_clamp (by omega)) dX2_nextOrder_116 ?_
        refine lv_iload_n hx hb dX2_nextOrder_117 rfl (lv_at hl 6 rfl) ?_
        refine lv_icmp_ne (tgt := 141) hx hb dX2_nextOrder_118 (by decide) (fun c22 => ?_) (fun c22 => ?_)
        · refine lv_iinc (v := nI (j16 + 1)) (lv' := [(4, .int (nI (j16 + 1))), (6, .int 1), (5, .int 1), (3, .int 1), (0, .ref a_M), (1, .int (nI x0)), (2, .int (nI x1))]) hx hb dX2_nextOrder_141 hl (k := 2) rfl (nI_1 _) (by decide) rfl (fun ls hl => ?_)
          refine lv_goto (tgt := 29) hx hb dX2_nextOrder_144 (by decide) ?_
          refine lv_pc (q := 29) rfl ?_
          refine W.widen (k := 0) (n := 0) (Nat.le_of_ble_eq_true rfl) (Nat.le_of_ble_eq_true rfl) ?_
          exact ih29 (j16 + 1) (by omega) (by omega) _ _ _ (uSub hP [0, 1, 2, 3, 4, 5, 6, 7] rfl) (hD.sub [0, 1, 2, 3, 4, 5, 6, 7] rfl rfl) hS (lv_sub hl [0, 3, 4, 5, 6] rfl)
        refine lv_iload_n hx hb dX2_nextOrder_121 rfl (lv_at hl 3 rfl) ?_
        refine lv_if_ne (tgt := 138) hx hb dX2_nextOrder_122 (by decide) (fun _ => ?_) (fun h9 => absurd h9 (by decide))
        refine lv_iload hx hb dX2_nextOrder_138 (lv_at hl 2 rfl) ?_
        refine lv_pc (q := 140) rfl ?_
        exact uRi () B (Or.inr ⟨j16, by omega, rfl⟩) (uSub hP [0, 1, 2, 3, 4, 5, 6, 7] rfl) (hD.sub [0, 1, 2, 3, 4, 5, 6, 7] rfl rfl) hS dX2_nextOrder_140
      refine lv_aload_n hx hb dX2_nextOrder_55 rfl (lv_at hl 2 rfl) ?_
      refine uGet (ci := 2) (C := RX2) (T := TX2) (N := 14) (v := .ref a_RA) B inlX2 hP 0 rfl rfl 1 rfl mfl_X2_55 rfl rfl dX2_nextOrder_56 ?_
      refine uGet (ci := 7) (C := RX7) (T := TX7) (N := 16) (v := .ref a_RA_orderPosts) B inlX7 hP 1 rfl rfl 4 rfl mfl_X2_108 rfl rfl dX2_nextOrder_59 ?_
      refine lv_iload hx hb dX2_nextOrder_62 (lv_at hl 0 rfl) ?_
      refine uIald (i := (nI j16)) (j := j16) B hP 2 rfl (nI_in (by omega) (by omega)) (nI_clamp (by omega)) dX2_nextOrder_64 ?_
      refine lv_pc (q := 65) rfl ?_
      refine lv_iload_n hx hb dX2_nextOrder_65 rfl (lv_at hl 3 rfl) ?_
      refine lv_icmp_ne (tgt := 73) hx hb dX2_nextOrder_66 (by decide) (fun c23 => ?_) (fun c23 => ?_)
      · refine lv_iconst (v := 0) hx hb dX2_nextOrder_73 (by decide) ?_
        refine lv_istore (lv' := [(5, .int 0), (4, .int (nI j16)), (3, .int 1), (0, .ref a_M), (1, .int (nI x0)), (2, .int (nI x1))]) hx hb dX2_nextOrder_74 hl (by decide) rfl (fun ls hl => ?_)
        refine lv_aload_n hx hb dX2_nextOrder_76 rfl (lv_at hl 3 rfl) ?_
        refine uGet (ci := 2) (C := RX2) (T := TX2) (N := 14) (v := .ref a_M_ordersDone) B inlX2 hP 0 rfl rfl 6 rfl mfl_X2_27 rfl rfl dX2_nextOrder_77 ?_
        refine lv_pc (q := 80) rfl ?_
        refine lv_iload_n hx hb dX2_nextOrder_80 rfl (lv_at hl 4 rfl) ?_
        refine uIald (i := (nI x0)) (j := x0) B hP 5 rfl (nI_in (by omega) (by omega)) (nI_clamp (by omega)) dX2_nextOrder_81 ?_
        refine lv_iload hx hb dX2_nextOrder_82 (lv_at hl 1 rfl) ?_
        refine lv_ishr hx hb dX2_nextOrder_84 ?_
        refine lv_iconst (v := 1) hx hb dX2_nextOrder_85 (by decide) ?_
        refine lv_iand hx hb dX2_nextOrder_86 ?_
        refine lv_pc (q := 87) rfl ?_
        refine lv_if_ne (tgt := 94) hx hb dX2_nextOrder_87 (by decide) (fun c24 => ?_) (fun c24 => ?_)
        · refine lv_iconst (v := 0) hx hb dX2_nextOrder_94 (by decide) ?_
          refine lv_istore (lv' := [(6, .int 0), (5, .int 0), (4, .int (nI j16)), (3, .int 1), (0, .ref a_M), (1, .int (nI x0)), (2, .int (nI x1))]) hx hb dX2_nextOrder_95 hl (by decide) rfl (fun ls hl => ?_)
          refine lv_iload hx hb dX2_nextOrder_97 (lv_at hl 1 rfl) ?_
          refine lv_if_eq (tgt := 141) hx hb dX2_nextOrder_99 (by decide) (fun _ => ?_) (fun h9 => absurd (by decide) h9)
          refine lv_iinc (v := nI (j16 + 1)) (lv' := [(4, .int (nI (j16 + 1))), (6, .int 0), (5, .int 0), (3, .int 1), (0, .ref a_M), (1, .int (nI x0)), (2, .int (nI x1))]) hx hb dX2_nextOrder_141 hl (k := 2) rfl (nI_1 _) (by decide) rfl (fun ls hl => ?_)
          refine lv_pc (q := 144) rfl ?_
          refine lv_goto (tgt := 29) hx hb dX2_nextOrder_144 (by decide) ?_
          refine lv_pc (q := 29) rfl ?_
          refine W.widen (k := 0) (n := 0) (Nat.le_of_ble_eq_true rfl) (Nat.le_of_ble_eq_true rfl) ?_
          exact ih29 (j16 + 1) (by omega) (by omega) _ _ _ (uSub hP [0, 1, 2, 3, 4, 5, 6, 7] rfl) (hD.sub [0, 1, 2, 3, 4, 5, 6, 7] rfl rfl) hS (lv_sub hl [0, 3, 4, 5, 6] rfl)
        refine lv_iconst (v := 1) hx hb dX2_nextOrder_90 (by decide) ?_
        refine lv_goto (tgt := 95) hx hb dX2_nextOrder_91 (by decide) ?_
        refine lv_istore (lv' := [(6, .int 1), (5, .int 0), (4, .int (nI j16)), (3, .int 1), (0, .ref a_M), (1, .int (nI x0)), (2, .int (nI x1))]) hx hb dX2_nextOrder_95 hl (by decide) rfl (fun ls hl => ?_)
        refine lv_iload hx hb dX2_nextOrder_97 (lv_at hl 1 rfl) ?_
        refine lv_if_eq (tgt := 141) hx hb dX2_nextOrder_99 (by decide) (fun _ => ?_) (fun h9 => absurd (by decide) h9)
        refine lv_pc (q := 141) rfl ?_
        refine lv_iinc (v := nI (j16 + 1)) (lv' := [(4, .int (nI (j16 + 1))), (6, .int 1), (5, .int 0), (3, .int 1), (0, .ref a_M), (1, .int (nI x0)), (2, .int (nI x1))]) hx hb dX2_nextOrder_141 hl (k := 2) rfl (nI_1 _) (by decide) rfl (fun ls hl => ?_)
        refine lv_goto (tgt := 29) hx hb dX2_nextOrder_144 (by decide) ?_
        refine lv_pc (q := 29) rfl ?_
        refine W.widen (k := 0) (n := 0) (Nat.le_of_ble_eq_true rfl) (Nat.le_of_ble_eq_true rfl) ?_
        exact ih29 (j16 + 1) (by omega) (by omega) _ _ _ (uSub hP [0, 1, 2, 3, 4, 5, 6, 7] rfl) (hD.sub [0, 1, 2, 3, 4, 5, 6, 7] rfl rfl) hS (lv_sub hl [0, 3, 4, 5, 6] rfl)
      refine lv_iconst (v := 1) hx hb dX2_nextOrder_69 (by decide) ?_
      refine lv_goto (tgt := 74) hx hb dX2_nextOrder_70 (by decide) ?_
      refine lv_istore (lv' := [(5, .int 1), (4, .int (nI j16)), (3, .int 1), (0, .ref a_M), (1, .int (nI x0)), (2, .int (nI x1))]) hx hb dX2_nextOrder_74 hl (by decide) rfl (fun ls hl => ?_)
      refine lv_aload_n hx hb dX2_nextOrder_76 rfl (lv_at hl 3 rfl) ?_
      refine lv_pc (q := 77) rfl ?_
      refine uGet (ci := 2) (C := RX2) (T := TX2) (N := 14) (v := .ref a_M_ordersDone) B inlX2 hP 0 rfl rfl 6 rfl mfl_X2_27 rfl rfl dX2_nextOrder_77 ?_
      refine lv_iload_n hx hb dX2_nextOrder_80 rfl (lv_at hl 4 rfl) ?_
      refine uIald (i := (nI x0)) (j := x0) B hP 5 rfl (nI_in (by omega) (by omega)) (nI_clamp (by omega)) dX2_nextOrder_81 ?_
      refine lv_iload hx hb dX2_nextOrder_82 (lv_at hl 1 rfl) ?_
      refine lv_ishr hx hb dX2_nextOrder_84 ?_
      refine lv_iconst (v := 1) hx hb dX2_nextOrder_85 (by decide) ?_
      refine lv_pc (q := 86) rfl ?_
      refine lv_iand hx hb dX2_nextOrder_86 ?_
      refine lv_if_ne (tgt := 94) hx hb dX2_nextOrder_87 (by decide) (fun c25 => ?_) (fun c25 => ?_)
      · refine lv_iconst (v := 0) hx hb dX2_nextOrder_94 (by decide) ?_
        refine lv_istore (lv' := [(6, .int 0), (5, .int 1), (4, .int (nI j16)), (3, .int 1), (0, .ref a_M), (1, .int (nI x0)), (2, .int (nI x1))]) hx hb dX2_nextOrder_95 hl (by decide) rfl (fun ls hl => ?_)
        refine lv_iload hx hb dX2_nextOrder_97 (lv_at hl 1 rfl) ?_
        refine lv_if_eq (tgt := 141) hx hb dX2_nextOrder_99 (by decide) (fun h9 => absurd h9 (by decide)) (fun _ => ?_)
        refine lv_pc (q := 102) rfl ?_
        refine lv_iload hx hb dX2_nextOrder_102 (lv_at hl 0 rfl) ?_
        refine lv_if_eq (tgt := 141) hx hb dX2_nextOrder_104 (by decide) (fun _ => ?_) (fun h9 => absurd (by decide) h9)
        refine lv_iinc (v := nI (j16 + 1)) (lv' := [(4, .int (nI (j16 + 1))), (6, .int 0), (5, .int 1), (3, .int 1), (0, .ref a_M), (1, .int (nI x0)), (2, .int (nI x1))]) hx hb dX2_nextOrder_141 hl (k := 2) rfl (nI_1 _) (by decide) rfl (fun ls hl => ?_)
        refine lv_goto (tgt := 29) hx hb dX2_nextOrder_144 (by decide) ?_
        refine lv_pc (q := 29) rfl ?_
        refine W.widen (k := 0) (n := 0) (Nat.le_of_ble_eq_true rfl) (Nat.le_of_ble_eq_true rfl) ?_
        exact ih29 (j16 + 1) (by omega) (by omega) _ _ _ (uSub hP [0, 1, 2, 3, 4, 5, 6, 7] rfl) (hD.sub [0, 1, 2, 3, 4, 5, 6, 7] rfl rfl) hS (lv_sub hl [0, 3, 4, 5, 6] rfl)
      refine lv_iconst (v := 1) hx hb dX2_nextOrder_90 (by decide) ?_
      refine lv_goto (tgt := 95) hx hb dX2_nextOrder_91 (by decide) ?_
      refine lv_istore (lv' := [(6, .int 1), (5, .int 1), (4, .int (nI j16)), (3, .int 1), (0, .ref a_M), (1, .int (nI x0)), (2, .int (nI x1))]) hx hb dX2_nextOrder_95 hl (by decide) rfl (fun ls hl => ?_)
      refine lv_iload hx hb dX2_nextOrder_97 (lv_at hl 1 rfl) ?_
      refine lv_pc (q := 99) rfl ?_
      refine lv_if_eq (tgt := 141) hx hb dX2_nextOrder_99 (by decide) (fun h9 => absurd h9 (by decide)) (fun _ => ?_)
      refine lv_iload hx hb dX2_nextOrder_102 (lv_at hl 0 rfl) ?_
      refine lv_if_eq (tgt := 141) hx hb dX2_nextOrder_104 (by decide) (fun h9 => absurd h9 (by decide)) (fun _ => ?_)
      refine lv_aload_n hx hb dX2_nextOrder_107 rfl (lv_at hl 4 rfl) ?_
      refine uGet (ci := 2) (C := RX2) (T := TX2) (N := 14) (v := .ref a_RA) B inlX2 hP 0 rfl rfl 1 rfl mfl_X2_55 rfl rfl dX2_nextOrder_108 ?_
      refine uGet (ci := 7) (C := RX7) (T := TX7) (N := 16) (v := .ref a_RA_orderWords) B inlX7 hP 1 rfl rfl 5 rfl mfl_X2_111 rfl rfl dX2_nextOrder_111 ?_
      refine lv_pc (q := 114) rfl ?_
      refine lv_iload hx hb dX2_nextOrder_114 (lv_at hl 2 rfl) ?_
      refine uIald (i := (nI j16)) (j := j16) B hP 3 rfl (nI_in (by omega) (by omega)) (nI_clamp (by omega)) dX2_nextOrder_116 ?_
      refine lv_iload_n hx hb dX2_nextOrder_117 rfl (lv_at hl 6 rfl) ?_
      refine lv_icmp_ne (tgt := 141) hx hb dX2_nextOrder_118 (by decide) (fun c26 => ?_) (fun c26 => ?_)
      · refine lv_iinc (v := nI (j16 + 1)) (lv' := [(4, .int (nI (j16 + 1))), (6, .int 1), (5, .int 1), (3, .int 1), (0, .ref a_M), (1, .int (nI x0)), (2, .int (nI x1))]) hx hb dX2_nextOrder_141 hl (k := 2) rfl (nI_1 _) (by decide) rfl (fun ls hl => ?_)
        refine lv_goto (tgt := 29) hx hb dX2_nextOrder_144 (by decide) ?_
        refine lv_pc (q := 29) rfl ?_
        refine W.widen (k := 0) (n := 0) (Nat.le_of_ble_eq_true rfl) (Nat.le_of_ble_eq_true rfl) ?_
        exact ih29 (j16 + 1) (by omega) (by omega) _ _ _ (uSub hP [0, 1, 2, 3, 4, 5, 6, 7] rfl) (hD.sub [0, 1, 2, 3, 4, 5, 6, 7] rfl rfl) hS (lv_sub hl [0, 3, 4, 5, 6] rfl)
      refine lv_iload_n hx hb dX2_nextOrder_121 rfl (lv_at hl 3 rfl) ?_
      refine lv_if_ne (tgt := 138) hx hb dX2_nextOrder_122 (by decide) (fun _ => ?_) (fun h9 => absurd h9 (by decide))
      refine lv_pc (q := 138) rfl ?_
      refine lv_iload hx hb dX2_nextOrder_138 (lv_at hl 2 rfl) ?_
      exact uRi () B (Or.inr ⟨j16, by omega, rfl⟩) (uSub hP [0, 1, 2, 3, 4, 5, 6, 7] rfl) (hD.sub [0, 1, 2, 3, 4, 5, 6, 7] rfl rfl) hS dX2_nextOrder_140
  refine lv_pc (q := 29) rfl ?_
  refine W.widen (k := 0) (n := 0) (Nat.le_of_ble_eq_true rfl) (Nat.le_of_ble_eq_true rfl) ?_
  exact L18 ((v_RA_orders - 0) + 1) 0 (by omega) (Nat.lt_succ_self _) _ _ _ hP hD hS hl

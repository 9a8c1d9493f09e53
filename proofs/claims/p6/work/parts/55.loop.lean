set_option maxHeartbeats 40000000 in
set_option maxRecDepth 100000 in
theorem uLoop {p : Program} {e : Env} {s : State} {m : MethodId} {below : List Frame} {meth : Method} {c : Code} (l : Launch) {b L : Nat} {xs : Nat → Int32} {D : va_G} {K : Nat → ClassId} {A : Nat → Prop} (hL : L ≤ 3584) (C0 : lw_At p s m meth c b L xs) (B : uB p s m #[Value.ref b] meth c D K RL meth.name code 4 (some .boolean) A) (hAe : A = fun q : Nat => s.heap.size ≤ q) (hbA : ¬ A b) : ∀ n, uHead p l e s m below meth c D K A b L n := by
  obtain ⟨hx, hb, hr, hml, hown, hts0, hX, hbl, hlocks, hgv⟩ := id C0
  intro n
  induction n with
  | zero => unfold uHead; intros; exact absurd ‹_ < 0› (Nat.not_lt_zero _)
  | succ n18_ ih18 =>
    intro i a vn vi vl fi fl fo hT hi0 hm18 H locs ls hP hD hS hl
    refine lv_iload_n hx hb dL_law_18 rfl (lv_at hl 3 rfl) ?_
    refine lv_aload_n hx hb dL_law_19 rfl (lv_at hl 0 rfl) ?_
    refine va_slen hx hb hX hbl hbA hS dL_law_20 ?_
    refine lv_fixi (y := (nI L)) rfl ?_
    refine lv_bipush (v := 7) hx hb dL_law_21 (by decide) ?_
    refine lv_isub hx hb dL_law_23 ?_
    refine lv_pc (q := 24) rfl ?_
    refine lv_icmp_gt (tgt := 1480) hx hb dL_law_24 (by decide) (fun c1 => ?_) (fun c1 => ?_)
    · refine lv_iconst (v := 1) hx hb dL_law_1480 (by decide) ?_
      refine va_forget (fun q hq => by have h9 := hS.2.2 q hq; rw [hAe] at h9; exact h9) ?_
      refine W.widen (k := 600000) (n := 7302250) (by decide) (by decide) ?_
      exact lw_ret hx hb hr hlocks dL_law_1481
    refine lv_aload_n hx hb dL_law_27 rfl (lv_at hl 0 rfl) ?_
    refine lv_iload_n hx hb dL_law_28 rfl (lv_at hl 3 rfl) ?_
    refine va_sld (i := (nI i)) hx hb hX hbl hbA hS (nI_in (by have := uLen hL hi0 c1; omega) (by omega)) dL_law_29 ?_
    refine lv_fixi (y := (xs (i))) (by rw [nI_clamp (by omega)]) ?_
    refine lv_bipush (v := 31) hx hb dL_law_30 (by decide) ?_
    refine lv_iand hx hb dL_law_32 ?_
    refine lv_pc (q := 33) rfl ?_
    have hi := uLen hL hi0 c1
    obtain ⟨jj, hjj, ejj⟩ := pk_andE (xs (i)) (m := 31) 5 rfl
    have hjc : jj = 0 ∨ jj = 1 ∨ jj = 2 ∨ jj = 3 ∨ jj = 4 ∨ jj = 5 ∨ jj = 6 ∨ jj = 7 ∨ jj = 8 ∨ jj = 9 ∨ jj = 10 ∨ jj = 11 ∨ jj = 12 ∨ jj = 13 ∨ jj = 14 ∨ jj = 15 ∨ jj = 16 ∨ jj = 17 ∨ jj = 18 ∨ jj = 19 ∨ jj = 20 ∨ jj = 21 ∨ jj = 22 ∨ jj = 23 ∨ jj = 24 ∨ jj = 25 ∨ jj = 26 ∨ jj = 27 ∨ jj = 28 ∨ jj = 29 ∨ jj = 30 ∨ jj = 31 := by omega
    rcases hjc with rfl | rfl | rfl | rfl | rfl | rfl | rfl | rfl | rfl | rfl | rfl | rfl | rfl | rfl | rfl | rfl | rfl | rfl | rfl | rfl | rfl | rfl | rfl | rfl | rfl | rfl | rfl | rfl | rfl | rfl | rfl | rfl
    · refine lv_fixi (y := 0) ejj ?_
      refine lv_tableIn (off := 143) (tgt := 176) hx hb dL_law_33 (by decide) (by decide) rfl (by decide) ?_
      exact uCase0 l hL C0 B hAe hbA n18_ ih18 i a vn vi vl fi fl fo hT hi hm18 _ _ _ hP hD hS hl
    · refine lv_fixi (y := 1) ejj ?_
      refine lv_tableIn (off := 176) (tgt := 209) hx hb dL_law_33 (by decide) (by decide) rfl (by decide) ?_
      exact uCase1 l hL C0 B hAe hbA n18_ ih18 i a vn vi vl fi fl fo hT hi hm18 _ _ _ hP hD hS hl
    · refine lv_fixi (y := 2) ejj ?_
      refine lv_tableIn (off := 251) (tgt := 284) hx hb dL_law_33 (by decide) (by decide) rfl (by decide) ?_
      exact uCase2 l hL C0 B hAe hbA n18_ ih18 i a vn vi vl fi fl fo hT hi hm18 _ _ _ hP hD hS hl
    · refine lv_fixi (y := 3) ejj ?_
      refine lv_tableIn (off := 294) (tgt := 327) hx hb dL_law_33 (by decide) (by decide) rfl (by decide) ?_
      exact uCase3 l hL C0 B hAe hbA n18_ ih18 i a vn vi vl fi fl fo hT hi hm18 _ _ _ hP hD hS hl
    · refine lv_fixi (y := 4) ejj ?_
      refine lv_tableIn (off := 317) (tgt := 350) hx hb dL_law_33 (by decide) (by decide) rfl (by decide) ?_
      exact uCase4 l hL C0 B hAe hbA n18_ ih18 i a vn vi vl fi fl fo hT hi hm18 _ _ _ hP hD hS hl
    · refine lv_fixi (y := 5) ejj ?_
      refine lv_tableIn (off := 370) (tgt := 403) hx hb dL_law_33 (by decide) (by decide) rfl (by decide) ?_
      exact uCase5 l hL C0 B hAe hbA n18_ ih18 i a vn vi vl fi fl fo hT hi hm18 _ _ _ hP hD hS hl
    · refine lv_fixi (y := 6) ejj ?_
      refine lv_tableIn (off := 461) (tgt := 494) hx hb dL_law_33 (by decide) (by decide) rfl (by decide) ?_
      exact uCase6 l hL C0 B hAe hbA n18_ ih18 i a vn vi vl fi fl fo hT hi hm18 _ _ _ hP hD hS hl
    · refine lv_fixi (y := 7) ejj ?_
      refine lv_tableIn (off := 514) (tgt := 547) hx hb dL_law_33 (by decide) (by decide) rfl (by decide) ?_
      exact uCase7 l hL C0 B hAe hbA n18_ ih18 i a vn vi vl fi fl fo hT hi hm18 _ _ _ hP hD hS hl
    · refine lv_fixi (y := 8) ejj ?_
      refine lv_tableIn (off := 573) (tgt := 606) hx hb dL_law_33 (by decide) (by decide) rfl (by decide) ?_
      exact uCase8 l hL C0 B hAe hbA n18_ ih18 i a vn vi vl fi fl fo hT hi hm18 _ _ _ hP hD hS hl
    · refine lv_fixi (y := 9) ejj ?_
      refine lv_tableIn (off := 606) (tgt := 639) hx hb dL_law_33 (by decide) (by decide) rfl (by decide) ?_
      exact uCase9 l hL C0 B hAe hbA n18_ ih18 i a vn vi vl fi fl fo hT hi hm18 _ _ _ hP hD hS hl
    · refine lv_fixi (y := 10) ejj ?_
      refine lv_tableIn (off := 649) (tgt := 682) hx hb dL_law_33 (by decide) (by decide) rfl (by decide) ?_
      exact uCase10 l hL C0 B hAe hbA n18_ ih18 i a vn vi vl fi fl fo hT hi hm18 _ _ _ hP hD hS hl
    · refine lv_fixi (y := 11) ejj ?_
      refine lv_tableIn (off := 672) (tgt := 705) hx hb dL_law_33 (by decide) (by decide) rfl (by decide) ?_
      exact uCase11 l hL C0 B hAe hbA n18_ ih18 i a vn vi vl fi fl fo hT hi hm18 _ _ _ hP hD hS hl
    · refine lv_fixi (y := 12) ejj ?_
      refine lv_tableIn (off := 715) (tgt := 748) hx hb dL_law_33 (by decide) (by decide) rfl (by decide) ?_
      exact uCase12 l hL C0 B hAe hbA n18_ ih18 i a vn vi vl fi fl fo hT hi hm18 _ _ _ hP hD hS hl
    · refine lv_fixi (y := 13) ejj ?_
      refine lv_tableIn (off := 728) (tgt := 761) hx hb dL_law_33 (by decide) (by decide) rfl (by decide) ?_
      exact uCase13 l hL C0 B hAe hbA n18_ ih18 i a vn vi vl fi fl fo hT hi hm18 _ _ _ hP hD hS hl
    · refine lv_fixi (y := 14) ejj ?_
      refine lv_tableIn (off := 771) (tgt := 804) hx hb dL_law_33 (by decide) (by decide) rfl (by decide) ?_
      exact uCase14 l hL C0 B hAe hbA n18_ ih18 i a vn vi vl fi fl fo hT hi hm18 _ _ _ hP hD hS hl
    · refine lv_fixi (y := 15) ejj ?_
      refine lv_tableIn (off := 824) (tgt := 857) hx hb dL_law_33 (by decide) (by decide) rfl (by decide) ?_
      exact uCase15 l hL C0 B hAe hbA n18_ ih18 i a vn vi vl fi fl fo hT hi hm18 _ _ _ hP hD hS hl
    · refine lv_fixi (y := 16) ejj ?_
      refine lv_tableIn (off := 877) (tgt := 910) hx hb dL_law_33 (by decide) (by decide) rfl (by decide) ?_
      exact uCase16 l hL C0 B hAe hbA n18_ ih18 i a vn vi vl fi fl fo hT hi hm18 _ _ _ hP hD hS hl
    · refine lv_fixi (y := 17) ejj ?_
      refine lv_tableIn (off := 930) (tgt := 963) hx hb dL_law_33 (by decide) (by decide) rfl (by decide) ?_
      exact uCase17 l hL C0 B hAe hbA n18_ ih18 i a vn vi vl fi fl fo hT hi hm18 _ _ _ hP hD hS hl
    · refine lv_fixi (y := 18) ejj ?_
      refine lv_tableIn (off := 963) (tgt := 996) hx hb dL_law_33 (by decide) (by decide) rfl (by decide) ?_
      exact uCase18 l hL C0 B hAe hbA n18_ ih18 i a vn vi vl fi fl fo hT hi hm18 _ _ _ hP hD hS hl
    · refine lv_fixi (y := 19) ejj ?_
      refine lv_tableIn (off := 976) (tgt := 1009) hx hb dL_law_33 (by decide) (by decide) rfl (by decide) ?_
      exact uCase19 l hL C0 B hAe hbA n18_ ih18 i a vn vi vl fi fl fo hT hi hm18 _ _ _ hP hD hS hl
    · refine lv_fixi (y := 20) ejj ?_
      refine lv_tableIn (off := 1025) (tgt := 1058) hx hb dL_law_33 (by decide) (by decide) rfl (by decide) ?_
      exact uCase20 l hL C0 B hAe hbA n18_ ih18 i a vn vi vl fi fl fo hT hi hm18 _ _ _ hP hD hS hl
    · refine lv_fixi (y := 21) ejj ?_
      refine lv_tableIn (off := 1088) (tgt := 1121) hx hb dL_law_33 (by decide) (by decide) rfl (by decide) ?_
      exact uCase21 l hL C0 B hAe hbA n18_ ih18 i a vn vi vl fi fl fo hT hi hm18 _ _ _ hP hD hS hl
    · refine lv_fixi (y := 22) ejj ?_
      refine lv_tableIn (off := 1111) (tgt := 1144) hx hb dL_law_33 (by decide) (by decide) rfl (by decide) ?_
      exact uCase22 l hL C0 B hAe hbA n18_ ih18 i a vn vi vl fi fl fo hT hi hm18 _ _ _ hP hD hS hl
    · refine lv_fixi (y := 23) ejj ?_
      refine lv_tableIn (off := 1134) (tgt := 1167) hx hb dL_law_33 (by decide) (by decide) rfl (by decide) ?_
      exact uCase23 l hL C0 B hAe hbA n18_ ih18 i a vn vi vl fi fl fo hT hi hm18 _ _ _ hP hD hS hl
    · refine lv_fixi (y := 24) ejj ?_
      refine lv_tableIn (off := 1197) (tgt := 1230) hx hb dL_law_33 (by decide) (by decide) rfl (by decide) ?_
      exact uCase24 l hL C0 B hAe hbA n18_ ih18 i a vn vi vl fi fl fo hT hi hm18 _ _ _ hP hD hS hl
    · refine lv_fixi (y := 25) ejj ?_
      refine lv_tableIn (off := 1240) (tgt := 1273) hx hb dL_law_33 (by decide) (by decide) rfl (by decide) ?_
      exact uCase25 l hL C0 B hAe hbA n18_ ih18 i a vn vi vl fi fl fo hT hi hm18 _ _ _ hP hD hS hl
    · refine lv_fixi (y := 26) ejj ?_
      refine lv_tableIn (off := 1263) (tgt := 1296) hx hb dL_law_33 (by decide) (by decide) rfl (by decide) ?_
      exact uCase26 l hL C0 B hAe hbA n18_ ih18 i a vn vi vl fi fl fo hT hi hm18 _ _ _ hP hD hS hl
    · refine lv_fixi (y := 27) ejj ?_
      refine lv_tableIn (off := 1296) (tgt := 1329) hx hb dL_law_33 (by decide) (by decide) rfl (by decide) ?_
      exact uCase27 l hL C0 B hAe hbA n18_ ih18 i a vn vi vl fi fl fo hT hi hm18 _ _ _ hP hD hS hl
    · refine lv_fixi (y := 28) ejj ?_
      refine lv_tableIn (off := 1329) (tgt := 1362) hx hb dL_law_33 (by decide) (by decide) rfl (by decide) ?_
      exact uCase28 l hL C0 B hAe hbA n18_ ih18 i a vn vi vl fi fl fo hT hi hm18 _ _ _ hP hD hS hl
    · refine lv_fixi (y := 29) ejj ?_
      refine lv_tableIn (off := 1352) (tgt := 1385) hx hb dL_law_33 (by decide) (by decide) rfl (by decide) ?_
      exact uCase29 l hL C0 B hAe hbA n18_ ih18 i a vn vi vl fi fl fo hT hi hm18 _ _ _ hP hD hS hl
    · refine lv_fixi (y := 30) ejj ?_
      refine lv_tableIn (off := 1385) (tgt := 1418) hx hb dL_law_33 (by decide) (by decide) rfl (by decide) ?_
      exact uCase30 l hL C0 B hAe hbA n18_ ih18 i a vn vi vl fi fl fo hT hi hm18 _ _ _ hP hD hS hl
    · refine lv_fixi (y := 31) ejj ?_
      refine lv_tableIn (off := 1418) (tgt := 1451) hx hb dL_law_33 (by decide) (by decide) rfl (by decide) ?_
      exact uCase31 l hL C0 B hAe hbA n18_ ih18 i a vn vi vl fi fl fo hT hi hm18 _ _ _ hP hD hS hl

def qkX12_count_177 (ph0 : Nat) (ph1 : Nat) (ph2 : Nat) (ph3 : Nat) (ph4 : Nat) (pg5 : Nat) (pg6 : Nat) (pg7 : Nat) (pg8 : Nat) (pg9 : Nat) (pg10 : Nat) (pg11 : Nat) (pg12 : Nat) (pg13 : Nat) (pg14 : Nat) (pg15 : Nat) (pg16 : Nat) (pg17 : Nat) (pg18 : Nat) (pg19 : Nat) (pg20 : Nat) (pg21 : Nat) (pg22 : Nat) (pg23 : Nat) (pg24 : Nat) (pg25 : Nat) (pg26 : Nat) (pg27 : Nat) (pg28 : Nat) (pg29 : Nat) (pg30 : Nat) (pg31 : Nat) (pg32 : Nat) (pg33 : Nat) (pg34 : Nat) (pg35 : Nat) (pg36 : Nat) (pg37 : Nat) (pg38 : Nat) (pg39 : Nat) (pg40 : Nat) (pg41 : Nat) (pg42 : Nat) (pg43 : Nat) (pg44 : Nat) (pg45 : Nat) (pg46 : Nat) (pg47 : Nat) (pg48 : Nat) (pg49 : Nat) (pg50 : Nat) (pg51 : Nat) (pg52 : Nat) (pg53 : Nat) (pg54 : Nat) (pg55 : Nat) (pg56 : Nat) (pg57 : Nat) (pg58 : Nat) (pg59 : Nat) (pg60 : Nat) (pg61 : Nat) (pg62 : Nat) (pg63 : Nat) (pg64 : Nat) (pg65 : Nat) (pg66 : Nat) (pf67 : Nat → Int32) (pf68 : Nat → Int32) (pf69 : Nat → Int32) (pf70 : Nat → Int32) (px71 : Int32) : Int32 → (Unit) → Prop := (fun (r : Int32) (u : Unit) => (r = 4 ∧ ((px71 = 0) ∨ (¬ px71 = 0 ∧ px71 = 1))) ∨ (r = 0 ∧ ((¬ px71 = 0 ∧ ¬ px71 = 1 ∧ px71 = 2) ∨ (¬ px71 = 0 ∧ ¬ px71 = 1 ∧ ¬ px71 = 2 ∧ px71 = 3) ∨ (¬ px71 = 0 ∧ ¬ px71 = 1 ∧ ¬ px71 = 2 ∧ ¬ px71 = 3 ∧ px71 = 4) ∨ (¬ px71 = 0 ∧ ¬ px71 = 1 ∧ ¬ px71 = 2 ∧ ¬ px71 = 3 ∧ ¬ px71 = 4 ∧ px71 = 5))) ∨ (r = 2 ∧ (¬ px71 = 0 ∧ ¬ px71 = 1 ∧ ¬ px71 = 2 ∧ ¬ px71 = 3 ∧ ¬ px71 = 4 ∧ ¬ px71 = 5 ∧ px71 = 6)) ∨ (r = 1 ∧ (¬ px71 = 0 ∧ ¬ px71 = 1 ∧ ¬ px71 = 2 ∧ ¬ px71 = 3 ∧ ¬ px71 = 4 ∧ ¬ px71 = 5 ∧ ¬ px71 = 6 ∧ px71 = 7)) ∨ (r = (-1) ∧ (¬ px71 = 0 ∧ ¬ px71 = 1 ∧ ¬ px71 = 2 ∧ ¬ px71 = 3 ∧ ¬ px71 = 4 ∧ ¬ px71 = 5 ∧ ¬ px71 = 6 ∧ ¬ px71 = 7)))
def vkX12_count_177 (K : Nat → ClassId) (ph0 : Nat) (ph1 : Nat) (ph2 : Nat) (ph3 : Nat) (ph4 : Nat) (pg5 : Nat) (pg6 : Nat) (pg7 : Nat) (pg8 : Nat) (pg9 : Nat) (pg10 : Nat) (pg11 : Nat) (pg12 : Nat) (pg13 : Nat) (pg14 : Nat) (pg15 : Nat) (pg16 : Nat) (pg17 : Nat) (pg18 : Nat) (pg19 : Nat) (pg20 : Nat) (pg21 : Nat) (pg22 : Nat) (pg23 : Nat) (pg24 : Nat) (pg25 : Nat) (pg26 : Nat) (pg27 : Nat) (pg28 : Nat) (pg29 : Nat) (pg30 : Nat) (pg31 : Nat) (pg32 : Nat) (pg33 : Nat) (pg34 : Nat) (pg35 : Nat) (pg36 : Nat) (pg37 : Nat) (pg38 : Nat) (pg39 : Nat) (pg40 : Nat) (pg41 : Nat) (pg42 : Nat) (pg43 : Nat) (pg44 : Nat) (pg45 : Nat) (pg46 : Nat) (pg47 : Nat) (pg48 : Nat) (pg49 : Nat) (pg50 : Nat) (pg51 : Nat) (pg52 : Nat) (pg53 : Nat) (pg54 : Nat) (pg55 : Nat) (pg56 : Nat) (pg57 : Nat) (pg58 : Nat) (pg59 : Nat) (pg60 : Nat) (pg61 : Nat) (pg62 : Nat) (pg63 : Nat) (pg64 : Nat) (pg65 : Nat) (pg66 : Nat) (pf67 : Nat → Int32) (pf68 : Nat → Int32) (pf69 : Nat → Int32) (pf70 : Nat → Int32) (px71 : Int32) : (Unit) → va_W := (fun (u : Unit) => [])
set_option maxHeartbeats 4000000 in
set_option maxRecDepth 100000 in
theorem kX12_count_177 (l : Launch) (D : va_G) (K : Nat → ClassId) (sz : Nat) (ph0 : Nat) (ph1 : Nat) (ph2 : Nat) (ph3 : Nat) (ph4 : Nat) (pg5 : Nat) (pg6 : Nat) (pg7 : Nat) (pg8 : Nat) (pg9 : Nat) (pg10 : Nat) (pg11 : Nat) (pg12 : Nat) (pg13 : Nat) (pg14 : Nat) (pg15 : Nat) (pg16 : Nat) (pg17 : Nat) (pg18 : Nat) (pg19 : Nat) (pg20 : Nat) (pg21 : Nat) (pg22 : Nat) (pg23 : Nat) (pg24 : Nat) (pg25 : Nat) (pg26 : Nat) (pg27 : Nat) (pg28 : Nat) (pg29 : Nat) (pg30 : Nat) (pg31 : Nat) (pg32 : Nat) (pg33 : Nat) (pg34 : Nat) (pg35 : Nat) (pg36 : Nat) (pg37 : Nat) (pg38 : Nat) (pg39 : Nat) (pg40 : Nat) (pg41 : Nat) (pg42 : Nat) (pg43 : Nat) (pg44 : Nat) (pg45 : Nat) (pg46 : Nat) (pg47 : Nat) (pg48 : Nat) (pg49 : Nat) (pg50 : Nat) (pg51 : Nat) (pg52 : Nat) (pg53 : Nat) (pg54 : Nat) (pg55 : Nat) (pg56 : Nat) (pg57 : Nat) (pg58 : Nat) (pg59 : Nat) (pg60 : Nat) (pg61 : Nat) (pg62 : Nat) (pg63 : Nat) (pg64 : Nat) (pg65 : Nat) (pg66 : Nat) (pf67 : Nat → Int32) (pf68 : Nat → Int32) (pf69 : Nat → Int32) (pf70 : Nat → Int32) (px71 : Int32) (hpf67_0 : pf67 0 = 0) (hpf68_0 : pf68 0 = 0) (hpf69_0 : pf69 0 = 2) (hpf70_0 : pf70 0 = 1) : uMi l yX12_count cX12_count 2 (some .int) { frames := 0, cells := 0, slots := 0, locals := 0 } [.ref ph0, .int px71] D K [(ph0, .inr (12, [.int 0, .int 4, .int 4, .ref pg5, .ref pg6, .ref pg7, .ref pg8, .int 0, .ref pg9, .ref pg10, .int 0, .ref pg11, .ref pg12, .ref pg13, .ref pg14, .ref pg15, .ref pg16, .ref pg17, .int 0, .ref pg18, .ref pg19, .ref pg20, .ref pg21, .ref pg22, .ref pg23, .int 0, .ref pg24, .int 0, .int 0, .int 0, .ref pg25, .int 0, .int 0, .ref pg26, .int 0, .ref ph1, .ref pg27, .ref pg28, .ref pg29, .ref pg30, .ref pg31, .ref pg32, .ref ph3, .ref ph4, .ref ph2, .ref pg33, .ref pg34, .ref pg35, .ref pg36, .ref pg37, .ref pg38, .ref pg39, .ref pg40, .ref pg41, .ref pg42, .ref pg43, .ref pg44, .ref pg45, .int 0, .int 0, .int 0, .int 0, .int 0, .long 0, .int 0, .int 0, .int 0, .int 0, .int 0, .int (-1), .int 0, .ref pg46, .ref pg47, .ref pg48, .ref pg49, .ref pg50, .int 0, .int 0, .ref pg51, .ref pg52, .ref pg53, .ref pg54, .ref pg55, .ref pg56, .ref pg57, .ref pg58, .int 0, .int 0, .int 0, .int 0, .ref pg59, .ref pg60, .int 0, .ref pg61, .ref pg62, .ref pg63, .ref pg64, .ref pg65, .ref pg66])), (ph1, .inl (K 0, 2, .inl pf67)), (ph2, .inl (K 0, 2, .inl pf68)), (ph3, .inl (K 0, 2, .inl pf69)), (ph4, .inl (K 0, 2, .inl pf70))] sz (qkX12_count_177 ph0 ph1 ph2 ph3 ph4 pg5 pg6 pg7 pg8 pg9 pg10 pg11 pg12 pg13 pg14 pg15 pg16 pg17 pg18 pg19 pg20 pg21 pg22 pg23 pg24 pg25 pg26 pg27 pg28 pg29 pg30 pg31 pg32 pg33 pg34 pg35 pg36 pg37 pg38 pg39 pg40 pg41 pg42 pg43 pg44 pg45 pg46 pg47 pg48 pg49 pg50 pg51 pg52 pg53 pg54 pg55 pg56 pg57 pg58 pg59 pg60 pg61 pg62 pg63 pg64 pg65 pg66 pf67 pf68 pf69 pf70 px71) (vkX12_count_177 K ph0 ph1 ph2 ph3 ph4 pg5 pg6 pg7 pg8 pg9 pg10 pg11 pg12 pg13 pg14 pg15 pg16 pg17 pg18 pg19 pg20 pg21 pg22 pg23 pg24 pg25 pg26 pg27 pg28 pg29 pg30 pg31 pg32 pg33 pg34 pg35 pg36 pg37 pg38 pg39 pg40 pg41 pg42 pg43 pg44 pg45 pg46 pg47 pg48 pg49 pg50 pg51 pg52 pg53 pg54 pg55 pg56 pg57 pg58 pg59 pg60 pg61 pg62 pg63 pg64 pg65 pg66 pf67 pf68 pf69 pf70 px71) := by
  refine uMet (Qc := uQi D (qkX12_count_177 ph0 ph1 ph2 ph3 ph4 pg5 pg6 pg7 pg8 pg9 pg10 pg11 pg12 pg13 pg14 pg15 pg16 pg17 pg18 pg19 pg20 pg21 pg22 pg23 pg24 pg25 pg26 pg27 pg28 pg29 pg30 pg31 pg32 pg33 pg34 pg35 pg36 pg37 pg38 pg39 pg40 pg41 pg42 pg43 pg44 pg45 pg46 pg47 pg48 pg49 pg50 pg51 pg52 pg53 pg54 pg55 pg56 pg57 pg58 pg59 pg60 pg61 pg62 pg63 pg64 pg65 pg66 pf67 pf68 pf69 pf70 px71) (vkX12_count_177 K ph0 ph1 ph2 ph3 ph4 pg5 pg6 pg7 pg8 pg9 pg10 pg11 pg12 pg13 pg14 pg15 pg16 pg17 pg18 pg19 pg20 pg21 pg22 pg23 pg24 pg25 pg26 pg27 pg28 pg29 pg30 pg31 pg32 pg33 pg34 pg35 pg36 pg37 pg38 pg39 pg40 pg41 pg42 pg43 pg44 pg45 pg46 pg47 pg48 pg49 pg50 pg51 pg52 pg53 pg54 pg55 pg56 pg57 pg58 pg59 pg60 pg61 pg62 pg63 pg64 pg65 pg66 pf67 pf68 pf69 pf70 px71)) (ret := (some .int)) (by decide) (Nat.le_of_ble_eq_true rfl) ?_
  intro p e s m below meth c A ls hAe hsz B hP hD hS hl
  have hx := B.1
  have hb := B.2.1
  have hl : lv_has ls 2 [(0, .ref ph0), (1, .int px71)] := hl
  refine lv_aload_n hx hb dX12_count_0 rfl (lv_at hl 0 rfl) ?_
  refine lv_iconst (v := 0) hx hb dX12_count_1 (by decide) ?_
  refine uPut (ci := 12) (C := RX12) (T := TX12) (N := 99) (ws' := [(ph0, .inr (12, [.int 0, .int 4, .int 4, .ref pg5, .ref pg6, .ref pg7, .ref pg8, .int 0, .ref pg9, .ref pg10, .int 0, .ref pg11, .ref pg12, .ref pg13, .ref pg14, .ref pg15, .ref pg16, .ref pg17, .int 0, .ref pg18, .ref pg19, .ref pg20, .ref pg21, .ref pg22, .ref pg23, .int 0, .ref pg24, .int 0, .int 0, .int 0, .ref pg25, .int 0, .int 0, .ref pg26, .int 0, .ref ph1, .ref pg27, .ref pg28, .ref pg29, .ref pg30, .ref pg31, .ref pg32, .ref ph3, .ref ph4, .ref ph2, .ref pg33, .ref pg34, .ref pg35, .ref pg36, .ref pg37, .ref pg38, .ref pg39, .ref pg40, .ref pg41, .ref pg42, .ref pg43, .ref pg44, .ref pg45, .int 0, .int 0, .int 0, .int 0, .int 0, .long 0, .int 0, .int 0, .int 0, .int 0, .int 0, .int (-1), .int 0, .ref pg46, .ref pg47, .ref pg48, .ref pg49, .ref pg50, .int 0, .int 0, .ref pg51, .ref pg52, .ref pg53, .ref pg54, .ref pg55, .ref pg56, .ref pg57, .ref pg58, .int 0, .int 0, .int 0, .int 0, .ref pg59, .ref pg60, .int 0, .ref pg61, .ref pg62, .ref pg63, .ref pg64, .ref pg65, .ref pg66])), (ph1, .inl (K 0, 2, .inl pf67)), (ph2, .inl (K 0, 2, .inl pf68)), (ph3, .inl (K 0, 2, .inl pf69)), (ph4, .inl (K 0, 2, .inl pf70))]) B inlX12 tyX12_ok nmX12 hP hD hS 0 rfl rfl 0 rfl mfl_X12_224 rfl rfl rfl rfl rfl rfl dX12_count_2 (fun H locs hP hD hS => ?_)
  refine lv_iload_n hx hb dX12_count_5 rfl (lv_at hl 1 rfl) ?_
  by_cases c1 : px71 = 0
  · refine lv_tableIn (off := 46) (tgt := 52) hx hb dX12_count_6 (by rw [c1]; decide) (by rw [c1]; decide) (by rw [c1]; rfl) (by decide) ?_
    refine lv_pc (q := 52) rfl ?_
    refine lv_aload_n hx hb dX12_count_52 rfl (lv_at hl 0 rfl) ?_
    refine uGet (ci := 12) (C := RX12) (T := TX12) (N := 99) (v := .int 4) B inlX12 hP 0 rfl rfl 1 rfl mfl_X12_7 rfl rfl dX12_count_53 ?_
    exact uRi () B (Or.inl ⟨rfl, Or.inl c1⟩) (uSub hP [] rfl) (hD.sub [] rfl rfl) hS dX12_count_56
  by_cases c2 : px71 = 1
  · refine lv_tableIn (off := 51) (tgt := 57) hx hb dX12_count_6 (by rw [c2]; decide) (by rw [c2]; decide) (by rw [c2]; rfl) (by decide) ?_
    refine lv_pc (q := 57) rfl ?_
    refine lv_aload_n hx hb dX12_count_57 rfl (lv_at hl 0 rfl) ?_
    refine uGet (ci := 12) (C := RX12) (T := TX12) (N := 99) (v := .int 4) B inlX12 hP 0 rfl rfl 2 rfl mfl_X12_13 rfl rfl dX12_count_58 ?_
    exact uRi () B (Or.inl ⟨rfl, Or.inr ⟨c1, c2⟩⟩) (uSub hP [] rfl) (hD.sub [] rfl rfl) hS dX12_count_61
  by_cases c3 : px71 = 2
  · refine lv_tableIn (off := 56) (tgt := 62) hx hb dX12_count_6 (by rw [c3]; decide) (by rw [c3]; decide) (by rw [c3]; rfl) (by decide) ?_
    refine lv_pc (q := 62) rfl ?_
    refine lv_aload_n hx hb dX12_count_62 rfl (lv_at hl 0 rfl) ?_
    refine uGet (ci := 12) (C := RX12) (T := TX12) (N := 99) (v := .int 0) B inlX12 hP 0 rfl rfl 10 rfl mfl_X12_227 rfl rfl dX12_count_63 ?_
    exact uRi () B (Or.inr (Or.inl ⟨rfl, Or.inl ⟨c1, c2, c3⟩⟩)) (uSub hP [] rfl) (hD.sub [] rfl rfl) hS dX12_count_66
  by_cases c4 : px71 = 3
  · refine lv_tableIn (off := 61) (tgt := 67) hx hb dX12_count_6 (by rw [c4]; decide) (by rw [c4]; decide) (by rw [c4]; rfl) (by decide) ?_
    refine lv_pc (q := 67) rfl ?_
    refine lv_aload_n hx hb dX12_count_67 rfl (lv_at hl 0 rfl) ?_
    refine uGet (ci := 12) (C := RX12) (T := TX12) (N := 99) (v := .int 0) B inlX12 hP 0 rfl rfl 18 rfl mfl_X12_230 rfl rfl dX12_count_68 ?_
    exact uRi () B (Or.inr (Or.inl ⟨rfl, Or.inr (Or.inl ⟨c1, c2, c3, c4⟩)⟩)) (uSub hP [] rfl) (hD.sub [] rfl rfl) hS dX12_count_71
  by_cases c5 : px71 = 4
  · refine lv_tableIn (off := 66) (tgt := 72) hx hb dX12_count_6 (by rw [c5]; decide) (by rw [c5]; decide) (by rw [c5]; rfl) (by decide) ?_
    refine lv_pc (q := 72) rfl ?_
    refine lv_aload_n hx hb dX12_count_72 rfl (lv_at hl 0 rfl) ?_
    refine uGet (ci := 12) (C := RX12) (T := TX12) (N := 99) (v := .ref ph1) B inlX12 hP 0 rfl rfl 35 rfl mfl_X12_84 rfl rfl dX12_count_73 ?_
    refine lv_iconst (v := 0) hx hb dX12_count_76 (by decide) ?_
    refine uIald (i := 0) (j := 0) B hP 1 rfl (by decide) rfl dX12_count_77 ?_
    refine lv_fixi (y := 0) hpf67_0 ?_
    exact uRi () B (Or.inr (Or.inl ⟨rfl, Or.inr (Or.inr (Or.inl ⟨c1, c2, c3, c4, c5⟩))⟩)) (uSub hP [] rfl) (hD.sub [] rfl rfl) hS dX12_count_78
  by_cases c6 : px71 = 5
  · refine lv_tableIn (off := 73) (tgt := 79) hx hb dX12_count_6 (by rw [c6]; decide) (by rw [c6]; decide) (by rw [c6]; rfl) (by decide) ?_
    refine lv_pc (q := 79) rfl ?_
    refine lv_aload_n hx hb dX12_count_79 rfl (lv_at hl 0 rfl) ?_
    refine uGet (ci := 12) (C := RX12) (T := TX12) (N := 99) (v := .ref ph2) B inlX12 hP 0 rfl rfl 44 rfl mfl_X12_112 rfl rfl dX12_count_80 ?_
    refine lv_iconst (v := 0) hx hb dX12_count_83 (by decide) ?_
    refine uIald (i := 0) (j := 0) B hP 2 rfl (by decide) rfl dX12_count_84 ?_
    refine lv_fixi (y := 0) hpf68_0 ?_
    exact uRi () B (Or.inr (Or.inl ⟨rfl, Or.inr (Or.inr (Or.inr ⟨c1, c2, c3, c4, c5, c6⟩))⟩)) (uSub hP [] rfl) (hD.sub [] rfl rfl) hS dX12_count_85
  by_cases c7 : px71 = 6
  · refine lv_tableIn (off := 80) (tgt := 86) hx hb dX12_count_6 (by rw [c7]; decide) (by rw [c7]; decide) (by rw [c7]; rfl) (by decide) ?_
    refine lv_pc (q := 86) rfl ?_
    refine lv_aload_n hx hb dX12_count_86 rfl (lv_at hl 0 rfl) ?_
    refine uGet (ci := 12) (C := RX12) (T := TX12) (N := 99) (v := .ref ph3) B inlX12 hP 0 rfl rfl 42 rfl mfl_X12_106 rfl rfl dX12_count_87 ?_
    refine lv_iconst (v := 0) hx hb dX12_count_90 (by decide) ?_
    refine uIald (i := 0) (j := 0) B hP 3 rfl (by decide) rfl dX12_count_91 ?_
    refine lv_fixi (y := 2) hpf69_0 ?_
    exact uRi () B (Or.inr (Or.inr (Or.inl ⟨rfl, ⟨c1, c2, c3, c4, c5, c6, c7⟩⟩))) (uSub hP [] rfl) (hD.sub [] rfl rfl) hS dX12_count_92
  by_cases c8 : px71 = 7
  · refine lv_tableIn (off := 87) (tgt := 93) hx hb dX12_count_6 (by rw [c8]; decide) (by rw [c8]; decide) (by rw [c8]; rfl) (by decide) ?_
    refine lv_pc (q := 93) rfl ?_
    refine lv_aload_n hx hb dX12_count_93 rfl (lv_at hl 0 rfl) ?_
    refine uGet (ci := 12) (C := RX12) (T := TX12) (N := 99) (v := .ref ph4) B inlX12 hP 0 rfl rfl 43 rfl mfl_X12_109 rfl rfl dX12_count_94 ?_
    refine lv_iconst (v := 0) hx hb dX12_count_97 (by decide) ?_
    refine uIald (i := 0) (j := 0) B hP 4 rfl (by decide) rfl dX12_count_98 ?_
    refine lv_fixi (y := 1) hpf70_0 ?_
    exact uRi () B (Or.inr (Or.inr (Or.inr (Or.inl ⟨rfl, ⟨c1, c2, c3, c4, c5, c6, c7, c8⟩⟩)))) (uSub hP [] rfl) (hD.sub [] rfl rfl) hS dX12_count_99
  refine lv_tableOut (tgt := 100) hx hb dX12_count_6 (by simp only [fa_eq, Int32.reduceToInt] at c1 c2 c3 c4 c5 c6 c7 c8; omega) (by decide) ?_
  refine lv_pc (q := 100) rfl ?_
  refine lv_iconst (v := (-1)) hx hb dX12_count_100 (by decide) ?_
  exact uRi () B (Or.inr (Or.inr (Or.inr (Or.inr ⟨rfl, ⟨c1, c2, c3, c4, c5, c6, c7, c8⟩⟩)))) (uSub hP [] rfl) (hD.sub [] rfl rfl) hS dX12_count_101
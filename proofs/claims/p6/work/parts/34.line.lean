def qwJ6_numberOfTrailingZeros_0f7a4 (x0 : Int32) : Int32 → (Unit) → Prop := (fun (r : Int32) (u : Unit) => (∃ a : Nat, a ≤ 2147483647 ∧ r = nI a))
def vwJ6_numberOfTrailingZeros_0f7a4 (K : Nat → ClassId) (x0 : Int32) : (Unit) → va_W := (fun (u : Unit) => [])
set_option maxHeartbeats 4000000 in
set_option maxRecDepth 100000 in
theorem wJ6_numberOfTrailingZeros_0f7a4 (l : Launch) (D : va_G) (K : Nat → ClassId) (sz : Nat) (x0 : Int32) : uMi l yJ6_numberOfTrailingZeros_0f7a4 cJ6_numberOfTrailingZeros_0f7a4 2 (some .int) { frames := 0, cells := 0, slots := 0, locals := 0 } [.int x0] D K [] sz (qwJ6_numberOfTrailingZeros_0f7a4 x0) (vwJ6_numberOfTrailingZeros_0f7a4 K x0) := by
  refine uMet (Qc := uQi D (qwJ6_numberOfTrailingZeros_0f7a4 x0) (vwJ6_numberOfTrailingZeros_0f7a4 K x0)) (ret := (some .int)) (by decide) (Nat.le_of_ble_eq_true rfl) ?_
  intro p e s m below meth c A ls hAe hsz B hP hD hS hl
  have hx := B.1
  have hb := B.2.1
  have hl : lv_has ls 2 [(0, .int x0)] := hl
  refine lv_iload_n hx hb dJ6_numberOfTrailingZeros_0f7a4_0 rfl (lv_at hl 0 rfl) ?_
  refine lv_iconst (v := (-1)) hx hb dJ6_numberOfTrailingZeros_0f7a4_1 (by decide) ?_
  refine lv_ixor hx hb dJ6_numberOfTrailingZeros_0f7a4_2 ?_
  refine lv_iload_n hx hb dJ6_numberOfTrailingZeros_0f7a4_3 rfl (lv_at hl 0 rfl) ?_
  refine lv_iconst (v := 1) hx hb dJ6_numberOfTrailingZeros_0f7a4_4 (by decide) ?_
  refine lv_pc (q := 5) rfl ?_
  refine lv_isub hx hb dJ6_numberOfTrailingZeros_0f7a4_5 ?_
  refine lv_iand hx hb dJ6_numberOfTrailingZeros_0f7a4_6 ?_
  refine lv_istore_n (lv' := [(0, .int ((x0 ^^^ (-1)) &&& (x0 - 1)))]) hx hb dJ6_numberOfTrailingZeros_0f7a4_7 rfl hl (by decide) rfl (fun ls hl => ?_)
  refine lv_iload_n hx hb dJ6_numberOfTrailingZeros_0f7a4_8 rfl (lv_at hl 0 rfl) ?_
  refine lv_if_gt (tgt := 17) hx hb dJ6_numberOfTrailingZeros_0f7a4_9 (by decide) (fun c1 => ?_) (fun c1 => ?_)
  · refine lv_iconst (v := 1) hx hb dJ6_numberOfTrailingZeros_0f7a4_17 (by decide) ?_
    refine lv_pc (q := 18) rfl ?_
    refine lv_istore_n (lv' := [(1, .int 1), (0, .int ((x0 ^^^ (-1)) &&& (x0 - 1)))]) hx hb dJ6_numberOfTrailingZeros_0f7a4_18 rfl hl (by decide) rfl (fun ls hl => ?_)
    refine lv_iload_n hx hb dJ6_numberOfTrailingZeros_0f7a4_19 rfl (lv_at hl 1 rfl) ?_
    refine uLdcw B mct_J6_264 dJ6_numberOfTrailingZeros_0f7a4_20 ?_
    refine lv_icmp_le (tgt := 34) hx hb dJ6_numberOfTrailingZeros_0f7a4_23 (by decide) (fun c2 => ?_) (fun c2 => ?_)
    · refine lv_iload_n hx hb dJ6_numberOfTrailingZeros_0f7a4_34 rfl (lv_at hl 1 rfl) ?_
      refine lv_sipush (v := 256) hx hb dJ6_numberOfTrailingZeros_0f7a4_35 (by decide) ?_
      refine lv_pc (q := 38) rfl ?_
      refine lv_icmp_le (tgt := 49) hx hb dJ6_numberOfTrailingZeros_0f7a4_38 (by decide) (fun c3 => ?_) (fun c3 => ?_)
      · refine lv_iload_n hx hb dJ6_numberOfTrailingZeros_0f7a4_49 rfl (lv_at hl 1 rfl) ?_
        refine lv_bipush (v := 16) hx hb dJ6_numberOfTrailingZeros_0f7a4_50 (by decide) ?_
        refine lv_icmp_le (tgt := 62) hx hb dJ6_numberOfTrailingZeros_0f7a4_52 (by decide) (fun c4 => ?_) (fun c4 => ?_)
        · refine lv_iload_n hx hb dJ6_numberOfTrailingZeros_0f7a4_62 rfl (lv_at hl 1 rfl) ?_
          refine lv_iconst (v := 4) hx hb dJ6_numberOfTrailingZeros_0f7a4_63 (by decide) ?_
          refine lv_pc (q := 64) rfl ?_
          refine lv_icmp_le (tgt := 74) hx hb dJ6_numberOfTrailingZeros_0f7a4_64 (by decide) (fun c5 => ?_) (fun c5 => ?_)
          · refine lv_iload_n hx hb dJ6_numberOfTrailingZeros_0f7a4_74 rfl (lv_at hl 0 rfl) ?_
            refine lv_iload_n hx hb dJ6_numberOfTrailingZeros_0f7a4_75 rfl (lv_at hl 1 rfl) ?_
            refine lv_iconst (v := 1) hx hb dJ6_numberOfTrailingZeros_0f7a4_76 (by decide) ?_
            obtain ⟨a6, ha6, ea6⟩ := nI_of (x := (x0 ^^^ (-1)) &&& (x0 - 1)) (by simp only [fa_lt, fa_le, fa_eq, Int32.reduceToInt] at c1 c2 c3 c4 c5 ⊢; omega)
            refine lv_iushr (v := nI (a6 / 2)) hx hb dJ6_numberOfTrailingZeros_0f7a4_77 (by rw [ea6]; exact pk_ushrN (by omega) _ 1 (by decide)) ?_
            refine lv_iadd hx hb dJ6_numberOfTrailingZeros_0f7a4_78 ?_
            refine lv_fixi (y := (nI (1 + (a6 / 2)))) (by rw [show (1 : Int32) = nI 1 from rfl, nI_add]) ?_
            refine lv_pc (q := 79) rfl ?_
            exact uRi () B ⟨1 + (a6 / 2), by omega, rfl⟩ (uSub hP [] rfl) (hD.sub [] rfl rfl) hS dJ6_numberOfTrailingZeros_0f7a4_79
          refine lv_iinc (v := 3) (lv' := [(1, .int 3), (0, .int ((x0 ^^^ (-1)) &&& (x0 - 1)))]) hx hb dJ6_numberOfTrailingZeros_0f7a4_67 hl (k := 0) rfl (by decide) (by decide) rfl (fun ls hl => ?_)
          refine lv_iload_n hx hb dJ6_numberOfTrailingZeros_0f7a4_70 rfl (lv_at hl 1 rfl) ?_
          refine lv_iconst (v := 2) hx hb dJ6_numberOfTrailingZeros_0f7a4_71 (by decide) ?_
          obtain ⟨a7, ha7, ea7⟩ := nI_of (x := (x0 ^^^ (-1)) &&& (x0 - 1)) (by simp only [fa_lt, fa_le, fa_eq, Int32.reduceToInt] at c1 c2 c3 c4 c5 ⊢; omega)
          refine lv_iushr (v := nI (a7 / 4)) hx hb dJ6_numberOfTrailingZeros_0f7a4_72 (by rw [ea7]; exact pk_ushrN (by omega) _ 2 (by decide)) ?_
          refine lv_istore_n (lv' := [(0, .int (nI (a7 / 4))), (1, .int 3)]) hx hb dJ6_numberOfTrailingZeros_0f7a4_73 rfl hl (by decide) rfl (fun ls hl => ?_)
          refine lv_pc (q := 74) rfl ?_
          refine lv_iload_n hx hb dJ6_numberOfTrailingZeros_0f7a4_74 rfl (lv_at hl 1 rfl) ?_
          refine lv_iload_n hx hb dJ6_numberOfTrailingZeros_0f7a4_75 rfl (lv_at hl 0 rfl) ?_
          refine lv_iconst (v := 1) hx hb dJ6_numberOfTrailingZeros_0f7a4_76 (by decide) ?_
          refine lv_iushr (v := nI ((a7 / 4) / 2)) hx hb dJ6_numberOfTrailingZeros_0f7a4_77 (by exact pk_ushrN (by omega) _ 1 (by decide)) ?_
          refine lv_iadd hx hb dJ6_numberOfTrailingZeros_0f7a4_78 ?_
          refine lv_fixi (y := (nI (3 + ((a7 / 4) / 2)))) (by rw [show (3 : Int32) = nI 3 from rfl, nI_add]) ?_
          exact uRi () B ⟨3 + ((a7 / 4) / 2), by omega, rfl⟩ (uSub hP [] rfl) (hD.sub [] rfl rfl) hS dJ6_numberOfTrailingZeros_0f7a4_79
        refine lv_iinc (v := 5) (lv' := [(1, .int 5), (0, .int ((x0 ^^^ (-1)) &&& (x0 - 1)))]) hx hb dJ6_numberOfTrailingZeros_0f7a4_55 hl (k := 0) rfl (by decide) (by decide) rfl (fun ls hl => ?_)
        refine lv_iload_n hx hb dJ6_numberOfTrailingZeros_0f7a4_58 rfl (lv_at hl 1 rfl) ?_
        refine lv_pc (q := 59) rfl ?_
        refine lv_iconst (v := 4) hx hb dJ6_numberOfTrailingZeros_0f7a4_59 (by decide) ?_
        obtain ⟨a8, ha8, ea8⟩ := nI_of (x := (x0 ^^^ (-1)) &&& (x0 - 1)) (by simp only [fa_lt, fa_le, fa_eq, Int32.reduceToInt] at c1 c2 c3 c4 ⊢; omega)
        refine lv_iushr (v := nI (a8 / 16)) hx hb dJ6_numberOfTrailingZeros_0f7a4_60 (by rw [ea8]; exact pk_ushrN (by omega) _ 4 (by decide)) ?_
        refine lv_istore_n (lv' := [(0, .int (nI (a8 / 16))), (1, .int 5)]) hx hb dJ6_numberOfTrailingZeros_0f7a4_61 rfl hl (by decide) rfl (fun ls hl => ?_)
        refine lv_iload_n hx hb dJ6_numberOfTrailingZeros_0f7a4_62 rfl (lv_at hl 0 rfl) ?_
        refine lv_iconst (v := 4) hx hb dJ6_numberOfTrailingZeros_0f7a4_63 (by decide) ?_
        refine lv_icmp_le (tgt := 74) hx hb dJ6_numberOfTrailingZeros_0f7a4_64 (by decide) (fun c9 => ?_) (fun c9 => ?_)
        · have k_9 : (a8 / 16) ≤ 4 := (nI_leI (a := a8 / 16) (b := 4) (by omega) (by omega)).mp c9
          refine lv_pc (q := 74) rfl ?_
          refine lv_iload_n hx hb dJ6_numberOfTrailingZeros_0f7a4_74 rfl (lv_at hl 1 rfl) ?_
          refine lv_iload_n hx hb dJ6_numberOfTrailingZeros_0f7a4_75 rfl (lv_at hl 0 rfl) ?_
          refine lv_iconst (v := 1) hx hb dJ6_numberOfTrailingZeros_0f7a4_76 (by decide) ?_
          refine lv_iushr (v := nI ((a8 / 16) / 2)) hx hb dJ6_numberOfTrailingZeros_0f7a4_77 (by exact pk_ushrN (by omega) _ 1 (by decide)) ?_
          refine lv_iadd hx hb dJ6_numberOfTrailingZeros_0f7a4_78 ?_
          refine lv_fixi (y := (nI (5 + ((a8 / 16) / 2)))) (by rw [show (5 : Int32) = nI 5 from rfl, nI_add]) ?_
          exact uRi () B ⟨5 + ((a8 / 16) / 2), by omega, rfl⟩ (uSub hP [] rfl) (hD.sub [] rfl rfl) hS dJ6_numberOfTrailingZeros_0f7a4_79
        have k_9 : ¬ (a8 / 16) ≤ 4 := fun h9 => c9 ((nI_leI (a := a8 / 16) (b := 4) (by omega) (by omega)).mpr h9)
        refine lv_pc (q := 67) rfl ?_
        refine lv_iinc (v := 7) (lv' := [(1, .int 7), (0, .int (nI (a8 / 16)))]) hx hb dJ6_numberOfTrailingZeros_0f7a4_67 hl (k := 1) rfl (by decide) (by decide) rfl (fun ls hl => ?_)
        refine lv_iload_n hx hb dJ6_numberOfTrailingZeros_0f7a4_70 rfl (lv_at hl 1 rfl) ?_
        refine lv_iconst (v := 2) hx hb dJ6_numberOfTrailingZeros_0f7a4_71 (by decide) ?_
        refine lv_iushr (v := nI ((a8 / 16) / 4)) hx hb dJ6_numberOfTrailingZeros_0f7a4_72 (by exact pk_ushrN (by omega) _ 2 (by decide)) ?_
        refine lv_istore_n (lv' := [(0, .int (nI ((a8 / 16) / 4))), (1, .int 7)]) hx hb dJ6_numberOfTrailingZeros_0f7a4_73 rfl hl (by decide) rfl (fun ls hl => ?_)
        refine lv_iload_n hx hb dJ6_numberOfTrailingZeros_0f7a4_74 rfl (lv_at hl 1 rfl) ?_
        refine lv_pc (q := 75) rfl ?_
        refine lv_iload_n hx hb dJ6_numberOfTrailingZeros_0f7a4_75 rfl (lv_at hl 0 rfl) ?_
        refine lv_iconst (v := 1) hx hb dJ6_numberOfTrailingZeros_0f7a4_76 (by decide) ?_
        refine lv_iushr (v := nI (((a8 / 16) / 4) / 2)) hx hb dJ6_numberOfTrailingZeros_0f7a4_77 (by exact pk_ushrN (by omega) _ 1 (by decide)) ?_
        refine lv_iadd hx hb dJ6_numberOfTrailingZeros_0f7a4_78 ?_
        refine lv_fixi (y := (nI (7 + (((a8 / 16) / 4) / 2)))) (by rw [show (7 : Int32) = nI 7 from rfl, nI_add]) ?_
        exact uRi () B ⟨7 + (((a8 / 16) / 4) / 2), by omega, rfl⟩ (uSub hP [] rfl) (hD.sub [] rfl rfl) hS dJ6_numberOfTrailingZeros_0f7a4_79
      refine lv_iinc (v := 9) (lv' := [(1, .int 9), (0, .int ((x0 ^^^ (-1)) &&& (x0 - 1)))]) hx hb dJ6_numberOfTrailingZeros_0f7a4_41 hl (k := 0) rfl (by decide) (by decide) rfl (fun ls hl => ?_)
      refine lv_iload_n hx hb dJ6_numberOfTrailingZeros_0f7a4_44 rfl (lv_at hl 1 rfl) ?_
      refine lv_bipush (v := 8) hx hb dJ6_numberOfTrailingZeros_0f7a4_45 (by decide) ?_
      obtain ⟨a10, ha10, ea10⟩ := nI_of (x := (x0 ^^^ (-1)) &&& (x0 - 1)) (by simp only [fa_lt, fa_le, fa_eq, Int32.reduceToInt] at c1 c2 c3 ⊢; omega)
      refine lv_iushr (v := nI (a10 / 256)) hx hb dJ6_numberOfTrailingZeros_0f7a4_47 (by rw [ea10]; exact pk_ushrN (by omega) _ 8 (by decide)) ?_
      refine lv_istore_n (lv' := [(0, .int (nI (a10 / 256))), (1, .int 9)]) hx hb dJ6_numberOfTrailingZeros_0f7a4_48 rfl hl (by decide) rfl (fun ls hl => ?_)
      refine lv_pc (q := 49) rfl ?_
      refine lv_iload_n hx hb dJ6_numberOfTrailingZeros_0f7a4_49 rfl (lv_at hl 0 rfl) ?_
      refine lv_bipush (v := 16) hx hb dJ6_numberOfTrailingZeros_0f7a4_50 (by decide) ?_
      refine lv_icmp_le (tgt := 62) hx hb dJ6_numberOfTrailingZeros_0f7a4_52 (by decide) (fun c11 => ?_) (fun c11 => ?_)
      · have k_11 : (a10 / 256) ≤ 16 := (nI_leI (a := a10 / 256) (b := 16) (by omega) (by omega)).mp c11
        refine lv_iload_n hx hb dJ6_numberOfTrailingZeros_0f7a4_62 rfl (lv_at hl 0 rfl) ?_
        refine lv_iconst (v := 4) hx hb dJ6_numberOfTrailingZeros_0f7a4_63 (by decide) ?_
        refine lv_icmp_le (tgt := 74) hx hb dJ6_numberOfTrailingZeros_0f7a4_64 (by decide) (fun c12 => ?_) (fun c12 => ?_)
        · have k_12 : (a10 / 256) ≤ 4 := (nI_leI (a := a10 / 256) (b := 4) (by omega) (by omega)).mp c12
          refine lv_pc (q := 74) rfl ?_
          refine lv_iload_n hx hb dJ6_numberOfTrailingZeros_0f7a4_74 rfl (lv_at hl 1 rfl) ?_
          refine lv_iload_n hx hb dJ6_numberOfTrailingZeros_0f7a4_75 rfl (lv_at hl 0 rfl) ?_
          refine lv_iconst (v := 1) hx hb dJ6_numberOfTrailingZeros_0f7a4_76 (by decide) ?_
          refine lv_iushr (v := nI ((a10 / 256) / 2)) hx hb dJ6_numberOfTrailingZeros_0f7a4_77 (by exact pk_ushrN (by omega) _ 1 (by decide)) ?_
          refine lv_iadd hx hb dJ6_numberOfTrailingZeros_0f7a4_78 ?_
          refine lv_fixi (y := (nI (9 + ((a10 / 256) / 2)))) (by rw [show (9 : Int32) = nI 9 from rfl, nI_add]) ?_
          exact uRi () B ⟨9 + ((a10 / 256) / 2), by omega, rfl⟩ (uSub hP [] rfl) (hD.sub [] rfl rfl) hS dJ6_numberOfTrailingZeros_0f7a4_79
        have k_12 : ¬ (a10 / 256) ≤ 4 := fun h9 => c12 ((nI_leI (a := a10 / 256) (b := 4) (by omega) (by omega)).mpr h9)
        refine lv_pc (q := 67) rfl ?_
        refine lv_iinc (v := 11) (lv' := [(1, .int 11), (0, .int (nI (a10 / 256)))]) hx hb dJ6_numberOfTrailingZeros_0f7a4_67 hl (k := 1) rfl (by decide) (by decide) rfl (fun ls hl => ?_)
        refine lv_iload_n hx hb dJ6_numberOfTrailingZeros_0f7a4_70 rfl (lv_at hl 1 rfl) ?_
        refine lv_iconst (v := 2) hx hb dJ6_numberOfTrailingZeros_0f7a4_71 (by decide) ?_
        refine lv_iushr (v := nI ((a10 / 256) / 4)) hx hb dJ6_numberOfTrailingZeros_0f7a4_72 (by exact pk_ushrN (by omega) _ 2 (by decide)) ?_
        refine lv_istore_n (lv' := [(0, .int (nI ((a10 / 256) / 4))), (1, .int 11)]) hx hb dJ6_numberOfTrailingZeros_0f7a4_73 rfl hl (by decide) rfl (fun ls hl => ?_)
        refine lv_iload_n hx hb dJ6_numberOfTrailingZeros_0f7a4_74 rfl (lv_at hl 1 rfl) ?_
        refine lv_pc (q := 75) rfl ?_
        refine lv_iload_n hx hb dJ6_numberOfTrailingZeros_0f7a4_75 rfl (lv_at hl 0 rfl) ?_
        refine lv_iconst (v := 1) hx hb dJ6_numberOfTrailingZeros_0f7a4_76 (by decide) ?_
        refine lv_iushr (v := nI (((a10 / 256) / 4) / 2)) hx hb dJ6_numberOfTrailingZeros_0f7a4_77 (by exact pk_ushrN (by omega) _ 1 (by decide)) ?_
        refine lv_iadd hx hb dJ6_numberOfTrailingZeros_0f7a4_78 ?_
        refine lv_fixi (y := (nI (11 + (((a10 / 256) / 4) / 2)))) (by rw [show (11 : Int32) = nI 11 from rfl, nI_add]) ?_
        exact uRi () B ⟨11 + (((a10 / 256) / 4) / 2), by omega, rfl⟩ (uSub hP [] rfl) (hD.sub [] rfl rfl) hS dJ6_numberOfTrailingZeros_0f7a4_79
      have k_11 : ¬ (a10 / 256) ≤ 16 := fun h9 => c11 ((nI_leI (a := a10 / 256) (b := 16) (by omega) (by omega)).mpr h9)
      refine lv_iinc (v := 13) (lv' := [(1, .int 13), (0, .int (nI (a10 / 256)))]) hx hb dJ6_numberOfTrailingZeros_0f7a4_55 hl (k := 1) rfl (by decide) (by decide) rfl (fun ls hl => ?_)
      refine lv_iload_n hx hb dJ6_numberOfTrailingZeros_0f7a4_58 rfl (lv_at hl 1 rfl) ?_
      refine lv_iconst (v := 4) hx hb dJ6_numberOfTrailingZeros_0f7a4_59 (by decide) ?_
      refine lv_pc (q := 60) rfl ?_
      refine lv_iushr (v := nI ((a10 / 256) / 16)) hx hb dJ6_numberOfTrailingZeros_0f7a4_60 (by exact pk_ushrN (by omega) _ 4 (by decide)) ?_
      refine lv_istore_n (lv' := [(0, .int (nI ((a10 / 256) / 16))), (1, .int 13)]) hx hb dJ6_numberOfTrailingZeros_0f7a4_61 rfl hl (by decide) rfl (fun ls hl => ?_)
      refine lv_iload_n hx hb dJ6_numberOfTrailingZeros_0f7a4_62 rfl (lv_at hl 0 rfl) ?_
      refine lv_iconst (v := 4) hx hb dJ6_numberOfTrailingZeros_0f7a4_63 (by decide) ?_
      refine lv_icmp_le (tgt := 74) hx hb dJ6_numberOfTrailingZeros_0f7a4_64 (by decide) (fun c13 => ?_) (fun c13 => ?_)
      · have k_13 : ((a10 / 256) / 16) ≤ 4 := (nI_leI (a := (a10 / 256) / 16) (b := 4) (by omega) (by omega)).mp c13
        refine lv_iload_n hx hb dJ6_numberOfTrailingZeros_0f7a4_74 rfl (lv_at hl 1 rfl) ?_
        refine lv_pc (q := 75) rfl ?_
        refine lv_iload_n hx hb dJ6_numberOfTrailingZeros_0f7a4_75 rfl (lv_at hl 0 rfl) ?_
        refine lv_iconst (v := 1) hx hb dJ6_numberOfTrailingZeros_0f7a4_76 (by decide) ?_
        refine lv_iushr (v := nI (((a10 / 256) / 16) / 2)) hx hb dJ6_numberOfTrailingZeros_0f7a4_77 (by exact pk_ushrN (by omega) _ 1 (by decide)) ?_
        refine lv_iadd hx hb dJ6_numberOfTrailingZeros_0f7a4_78 ?_
        refine lv_fixi (y := (nI (13 + (((a10 / 256) / 16) / 2)))) (by rw [show (13 : Int32) = nI 13 from rfl, nI_add]) ?_
        exact uRi () B ⟨13 + (((a10 / 256) / 16) / 2), by omega, rfl⟩ (uSub hP [] rfl) (hD.sub [] rfl rfl) hS dJ6_numberOfTrailingZeros_0f7a4_79
      have k_13 : ¬ ((a10 / 256) / 16) ≤ 4 := fun h9 => c13 ((nI_leI (a := (a10 / 256) / 16) (b := 4) (by omega) (by omega)).mpr h9)
      refine lv_iinc (v := 15) (lv' := [(1, .int 15), (0, .int (nI ((a10 / 256) / 16)))]) hx hb dJ6_numberOfTrailingZeros_0f7a4_67 hl (k := 1) rfl (by decide) (by decide) rfl (fun ls hl => ?_)
      refine lv_pc (q := 70) rfl ?_
      refine lv_iload_n hx hb dJ6_numberOfTrailingZeros_0f7a4_70 rfl (lv_at hl 1 rfl) ?_
      refine lv_iconst (v := 2) hx hb dJ6_numberOfTrailingZeros_0f7a4_71 (by decide) ?_
      refine lv_iushr (v := nI (((a10 / 256) / 16) / 4)) hx hb dJ6_numberOfTrailingZeros_0f7a4_72 (by exact pk_ushrN (by omega) _ 2 (by decide)) ?_
      refine lv_istore_n (lv' := [(0, .int (nI (((a10 / 256) / 16) / 4))), (1, .int 15)]) hx hb dJ6_numberOfTrailingZeros_0f7a4_73 rfl hl (by decide) rfl (fun ls hl => ?_)
      refine lv_iload_n hx hb dJ6_numberOfTrailingZeros_0f7a4_74 rfl (lv_at hl 1 rfl) ?_
      refine lv_iload_n hx hb dJ6_numberOfTrailingZeros_0f7a4_75 rfl (lv_at hl 0 rfl) ?_
      refine lv_pc (q := 76) rfl ?_
      refine lv_iconst (v := 1) hx hb dJ6_numberOfTrailingZeros_0f7a4_76 (by decide) ?_
      refine lv_iushr (v := nI ((((a10 / 256) / 16) / 4) / 2)) hx hb dJ6_numberOfTrailingZeros_0f7a4_77 (by exact pk_ushrN (by omega) _ 1 (by decide)) ?_
      refine lv_iadd hx hb dJ6_numberOfTrailingZeros_0f7a4_78 ?_
      refine lv_fixi (y := (nI (15 + ((((a10 / 256) / 16) / 4) / 2)))) (by rw [show (15 : Int32) = nI 15 from rfl, nI_add]) ?_
      exact uRi () B ⟨15 + ((((a10 / 256) / 16) / 4) / 2), by omega, rfl⟩ (uSub hP [] rfl) (hD.sub [] rfl rfl) hS dJ6_numberOfTrailingZeros_0f7a4_79
    refine lv_iinc (v := 17) (lv' := [(1, .int 17), (0, .int ((x0 ^^^ (-1)) &&& (x0 - 1)))]) hx hb dJ6_numberOfTrailingZeros_0f7a4_26 hl (k := 0) rfl (by decide) (by decide) rfl (fun ls hl => ?_)
    refine lv_iload_n hx hb dJ6_numberOfTrailingZeros_0f7a4_29 rfl (lv_at hl 1 rfl) ?_
    refine lv_pc (q := 30) rfl ?_
    refine lv_bipush (v := 16) hx hb dJ6_numberOfTrailingZeros_0f7a4_30 (by decide) ?_
    obtain ⟨a14, ha14, ea14⟩ := nI_of (x := (x0 ^^^ (-1)) &&& (x0 - 1)) (by simp only [fa_lt, fa_le, fa_eq, Int32.reduceToInt] at c1 c2 ⊢; omega)
    refine lv_iushr (v := nI (a14 / 65536)) hx hb dJ6_numberOfTrailingZeros_0f7a4_32 (by rw [ea14]; exact pk_ushrN (by omega) _ 16 (by decide)) ?_
    refine lv_istore_n (lv' := [(0, .int (nI (a14 / 65536))), (1, .int 17)]) hx hb dJ6_numberOfTrailingZeros_0f7a4_33 rfl hl (by decide) rfl (fun ls hl => ?_)
    refine lv_iload_n hx hb dJ6_numberOfTrailingZeros_0f7a4_34 rfl (lv_at hl 0 rfl) ?_
    refine lv_sipush (v := 256) hx hb dJ6_numberOfTrailingZeros_0f7a4_35 (by decide) ?_
    refine lv_icmp_le (tgt := 49) hx hb dJ6_numberOfTrailingZeros_0f7a4_38 (by decide) (fun c15 => ?_) (fun c15 => ?_)
    · have k_15 : (a14 / 65536) ≤ 256 := (nI_leI (a := a14 / 65536) (b := 256) (by omega) (by omega)).mp c15
      refine lv_pc (q := 49) rfl ?_
      refine lv_iload_n hx hb dJ6_numberOfTrailingZeros_0f7a4_49 rfl (lv_at hl 0 rfl) ?_
      refine lv_bipush (v := 16) hx hb dJ6_numberOfTrailingZeros_0f7a4_50 (by decide) ?_
      refine lv_icmp_le (tgt := 62) hx hb dJ6_numberOfTrailingZeros_0f7a4_52 (by decide) (fun c16 => ?_) (fun c16 => ?_)
      · have k_16 : (a14 / 65536) ≤ 16 := (nI_leI (a := a14 / 65536) (b := 16) (by omega) (by omega)).mp c16
        refine lv_iload_n hx hb dJ6_numberOfTrailingZeros_0f7a4_62 rfl (lv_at hl 0 rfl) ?_
        refine lv_iconst (v := 4) hx hb dJ6_numberOfTrailingZeros_0f7a4_63 (by decide) ?_
        refine lv_icmp_le (tgt := 74) hx hb dJ6_numberOfTrailingZeros_0f7a4_64 (by decide) (fun c17 => ?_) (fun c17 => ?_)
        · have k_17 : (a14 / 65536) ≤ 4 := (nI_leI (a := a14 / 65536) (b := 4) (by omega) (by omega)).mp c17
          refine lv_pc (q := 74) rfl ?_
          refine lv_iload_n hx hb dJ6_numberOfTrailingZeros_0f7a4_74 rfl (lv_at hl 1 rfl) ?_
          refine lv_iload_n hx hb dJ6_numberOfTrailingZeros_0f7a4_75 rfl (lv_at hl 0 rfl) ?_
          refine lv_iconst (v := 1) hx hb dJ6_numberOfTrailingZeros_0f7a4_76 (by decide) ?_
          refine lv_iushr (v := nI ((a14 / 65536) / 2)) hx hb dJ6_numberOfTrailingZeros_0f7a4_77 (by exact pk_ushrN (by omega) _ 1 (by decide)) ?_
          refine lv_iadd hx hb dJ6_numberOfTrailingZeros_0f7a4_78 ?_
          refine lv_fixi (y := (nI (17 + ((a14 / 65536) / 2)))) (by rw [show (17 : Int32) = nI 17 from rfl, nI_add]) ?_
          exact uRi () B ⟨17 + ((a14 / 65536) / 2), by omega, rfl⟩ (uSub hP [] rfl) (hD.sub [] rfl rfl) hS dJ6_numberOfTrailingZeros_0f7a4_79
        have k_17 : ¬ (a14 / 65536) ≤ 4 := fun h9 => c17 ((nI_leI (a := a14 / 65536) (b := 4) (by omega) (by omega)).mpr h9)
        refine lv_pc (q := 67) rfl ?_
        refine lv_iinc (v := 19) (lv' := [(1, .int 19), (0, .int (nI (a14 / 65536)))]) hx hb dJ6_numberOfTrailingZeros_0f7a4_67 hl (k := 1) rfl (by decide) (by decide) rfl (fun ls hl => ?_)
        refine lv_iload_n hx hb dJ6_numberOfTrailingZeros_0f7a4_70 rfl (lv_at hl 1 rfl) ?_
        refine lv_iconst (v := 2) hx hb dJ6_numberOfTrailingZeros_0f7a4_71 (by decide) ?_
        refine lv_iushr (v := nI ((a14 / 65536) / 4)) hx hb dJ6_numberOfTrailingZeros_0f7a4_72 (by exact pk_ushrN (by omega) _ 2 (by decide)) ?_
        refine lv_istore_n (lv' := [(0, .int (nI ((a14 / 65536) / 4))), (1, .int 19)]) hx hb dJ6_numberOfTrailingZeros_0f7a4_73 rfl hl (by decide) rfl (fun ls hl => ?_)
        refine lv_iload_n hx hb dJ6_numberOfTrailingZeros_0f7a4_74 rfl (lv_at hl 1 rfl) ?_
        refine lv_pc (q := 75) rfl ?_
        refine lv_iload_n hx hb dJ6_numberOfTrailingZeros_0f7a4_75 rfl (lv_at hl 0 rfl) ?_
        refine lv_iconst (v := 1) hx hb dJ6_numberOfTrailingZeros_0f7a4_76 (by decide) ?_
        refine lv_iushr (v := nI (((a14 / 65536) / 4) / 2)) hx hb dJ6_numberOfTrailingZeros_0f7a4_77 (by exact pk_ushrN (by omega) _ 1 (by decide)) ?_
        refine lv_iadd hx hb dJ6_numberOfTrailingZeros_0f7a4_78 ?_
        refine lv_fixi (y := (nI (19 + (((a14 / 65536) / 4) / 2)))) (by rw [show (19 : Int32) = nI 19 from rfl, nI_add]) ?_
        exact uRi () B ⟨19 + (((a14 / 65536) / 4) / 2), by omega, rfl⟩ (uSub hP [] rfl) (hD.sub [] rfl rfl) hS dJ6_numberOfTrailingZeros_0f7a4_79
      have k_16 : ¬ (a14 / 65536) ≤ 16 := fun h9 => c16 ((nI_leI (a := a14 / 65536) (b := 16) (by omega) (by omega)).mpr h9)
      refine lv_iinc (v := 21) (lv' := [(1, .int 21), (0, .int (nI (a14 / 65536)))]) hx hb dJ6_numberOfTrailingZeros_0f7a4_55 hl (k := 1) rfl (by decide) (by decide) rfl (fun ls hl => ?_)
      refine lv_iload_n hx hb dJ6_numberOfTrailingZeros_0f7a4_58 rfl (lv_at hl 1 rfl) ?_
      refine lv_iconst (v := 4) hx hb dJ6_numberOfTrailingZeros_0f7a4_59 (by decide) ?_
      refine lv_pc (q := 60) rfl ?_
      refine lv_iushr (v := nI ((a14 / 65536) / 16)) hx hb dJ6_numberOfTrailingZeros_0f7a4_60 (by exact pk_ushrN (by omega) _ 4 (by decide)) ?_
      refine lv_istore_n (lv' := [(0, .int (nI ((a14 / 65536) / 16))), (1, .int 21)]) hx hb dJ6_numberOfTrailingZeros_0f7a4_61 rfl hl (by decide) rfl (fun ls hl => ?_)
      refine lv_iload_n hx hb dJ6_numberOfTrailingZeros_0f7a4_62 rfl (lv_at hl 0 rfl) ?_
      refine lv_iconst (v := 4) hx hb dJ6_numberOfTrailingZeros_0f7a4_63 (by decide) ?_
      refine lv_icmp_le (tgt := 74) hx hb dJ6_numberOfTrailingZeros_0f7a4_64 (by decide) (fun c18 => ?_) (fun c18 => ?_)
      · have k_18 : ((a14 / 65536) / 16) ≤ 4 := (nI_leI (a := (a14 / 65536) / 16) (b := 4) (by omega) (by omega)).mp c18
        refine lv_iload_n hx hb dJ6_numberOfTrailingZeros_0f7a4_74 rfl (lv_at hl 1 rfl) ?_
        refine lv_pc (q := 75) rfl ?_
        refine lv_iload_n hx hb dJ6_numberOfTrailingZeros_0f7a4_75 rfl (lv_at hl 0 rfl) ?_
        refine lv_iconst (v := 1) hx hb dJ6_numberOfTrailingZeros_0f7a4_76 (by decide) ?_
        refine lv_iushr (v := nI (((a14 / 65536) / 16) / 2)) hx hb dJ6_numberOfTrailingZeros_0f7a4_77 (by exact pk_ushrN (by omega) _ 1 (by decide)) ?_
        refine lv_iadd hx hb dJ6_numberOfTrailingZeros_0f7a4_78 ?_
        refine lv_fixi (y := (nI (21 + (((a14 / 65536) / 16) / 2)))) (by rw [show (21 : Int32) = nI 21 from rfl, nI_add]) ?_
        exact uRi () B ⟨21 + (((a14 / 65536) / 16) / 2), by omega, rfl⟩ (uSub hP [] rfl) (hD.sub [] rfl rfl) hS dJ6_numberOfTrailingZeros_0f7a4_79
      have k_18 : ¬ ((a14 / 65536) / 16) ≤ 4 := fun h9 => c18 ((nI_leI (a := (a14 / 65536) / 16) (b := 4) (by omega) (by omega)).mpr h9)
      refine lv_iinc (v := 23) (lv' := [(1, .int 23), (0, .int (nI ((a14 / 65536) / 16)))]) hx hb dJ6_numberOfTrailingZeros_0f7a4_67 hl (k := 1) rfl (by decide) (by decide) rfl (fun ls hl => ?_)
      refine lv_pc (q := 70) rfl ?_
      refine lv_iload_n hx hb dJ6_numberOfTrailingZeros_0f7a4_70 rfl (lv_at hl 1 rfl) ?_
      refine lv_iconst (v := 2) hx hb dJ6_numberOfTrailingZeros_0f7a4_71 (by decide) ?_
      refine lv_iushr (v := nI (((a14 / 65536) / 16) / 4)) hx hb dJ6_numberOfTrailingZeros_0f7a4_72 (by exact pk_ushrN (by omega) _ 2 (by decide)) ?_
      refine lv_istore_n (lv' := [(0, .int (nI (((a14 / 65536) / 16) / 4))), (1, .int 23)]) hx hb dJ6_numberOfTrailingZeros_0f7a4_73 rfl hl (by decide) rfl (fun ls hl => ?_)
      refine lv_iload_n hx hb dJ6_numberOfTrailingZeros_0f7a4_74 rfl (lv_at hl 1 rfl) ?_
      refine lv_iload_n hx hb dJ6_numberOfTrailingZeros_0f7a4_75 rfl (lv_at hl 0 rfl) ?_
      refine lv_pc (q := 76) rfl ?_
      refine lv_iconst (v := 1) hx hb dJ6_numberOfTrailingZeros_0f7a4_76 (by decide) ?_
      refine lv_iushr (v := nI ((((a14 / 65536) / 16) / 4) / 2)) hx hb dJ6_numberOfTrailingZeros_0f7a4_77 (by exact pk_ushrN (by omega) _ 1 (by decide)) ?_
      refine lv_iadd hx hb dJ6_numberOfTrailingZeros_0f7a4_78 ?_
      refine lv_fixi (y := (nI (23 + ((((a14 / 65536) / 16) / 4) / 2)))) (by rw [show (23 : Int32) = nI 23 from rfl, nI_add]) ?_
      exact uRi () B ⟨23 + ((((a14 / 65536) / 16) / 4) / 2), by omega, rfl⟩ (uSub hP [] rfl) (hD.sub [] rfl rfl) hS dJ6_numberOfTrailingZeros_0f7a4_79
    have k_15 : ¬ (a14 / 65536) ≤ 256 := fun h9 => c15 ((nI_leI (a := a14 / 65536) (b := 256) (by omega) (by omega)).mpr h9)
    refine lv_pc (q := 41) rfl ?_
    refine lv_iinc (v := 25) (lv' := [(1, .int 25), (0, .int (nI (a14 / 65536)))]) hx hb dJ6_numberOfTrailingZeros_0f7a4_41 hl (k := 1) rfl (by decide) (by decide) rfl (fun ls hl => ?_)
    refine lv_iload_n hx hb dJ6_numberOfTrailingZeros_0f7a4_44 rfl (lv_at hl 1 rfl) ?_
    refine lv_bipush (v := 8) hx hb dJ6_numberOfTrailingZeros_0f7a4_45 (by decide) ?_
    refine lv_iushr (v := nI ((a14 / 65536) / 256)) hx hb dJ6_numberOfTrailingZeros_0f7a4_47 (by exact pk_ushrN (by omega) _ 8 (by decide)) ?_
    refine lv_istore_n (lv' := [(0, .int (nI ((a14 / 65536) / 256))), (1, .int 25)]) hx hb dJ6_numberOfTrailingZeros_0f7a4_48 rfl hl (by decide) rfl (fun ls hl => ?_)
    refine lv_iload_n hx hb dJ6_numberOfTrailingZeros_0f7a4_49 rfl (lv_at hl 0 rfl) ?_
    refine lv_pc (q := 50) rfl ?_
    refine lv_bipush (v := 16) hx hb dJ6_numberOfTrailingZeros_0f7a4_50 (by decide) ?_
    refine lv_icmp_le (tgt := 62) hx hb dJ6_numberOfTrailingZeros_0f7a4_52 (by decide) (fun c19 => ?_) (fun c19 => ?_)
    · have k_19 : ((a14 / 65536) / 256) ≤ 16 := (nI_leI (a := (a14 / 65536) / 256) (b := 16) (by omega) (by omega)).mp c19
      refine lv_iload_n hx hb dJ6_numberOfTrailingZeros_0f7a4_62 rfl (lv_at hl 0 rfl) ?_
      refine lv_iconst (v := 4) hx hb dJ6_numberOfTrailingZeros_0f7a4_63 (by decide) ?_
      refine lv_icmp_le (tgt := 74) hx hb dJ6_numberOfTrailingZeros_0f7a4_64 (by decide) (fun c20 => ?_) (fun c20 => ?_)
      · have k_20 : ((a14 / 65536) / 256) ≤ 4 := (nI_leI (a := (a14 / 65536) / 256) (b := 4) (by omega) (by omega)).mp c20
        refine lv_iload_n hx hb dJ6_numberOfTrailingZeros_0f7a4_74 rfl (lv_at hl 1 rfl) ?_
        refine lv_pc (q := 75) rfl ?_
        refine lv_iload_n hx hb dJ6_numberOfTrailingZeros_0f7a4_75 rfl (lv_at hl 0 rfl) ?_
        refine lv_iconst (v := 1) hx hb dJ6_numberOfTrailingZeros_0f7a4_76 (by decide) ?_
        refine lv_iushr (v := nI (((a14 / 65536) / 256) / 2)) hx hb dJ6_numberOfTrailingZeros_0f7a4_77 (by exact pk_ushrN (by omega) _ 1 (by decide)) ?_
        refine lv_iadd hx hb dJ6_numberOfTrailingZeros_0f7a4_78 ?_
        refine lv_fixi (y := (nI (25 + (((a14 / 65536) / 256) / 2)))) (by rw [show (25 : Int32) = nI 25 from rfl, nI_add]) ?_
        exact uRi () B ⟨25 + (((a14 / 65536) / 256) / 2), by omega, rfl⟩ (uSub hP [] rfl) (hD.sub [] rfl rfl) hS dJ6_numberOfTrailingZeros_0f7a4_79
      have k_20 : ¬ ((a14 / 65536) / 256) ≤ 4 := fun h9 => c20 ((nI_leI (a := (a14 / 65536) / 256) (b := 4) (by omega) (by omega)).mpr h9)
      refine lv_iinc (v := 27) (lv' := [(1, .int 27), (0, .int (nI ((a14 / 65536) / 256)))]) hx hb dJ6_numberOfTrailingZeros_0f7a4_67 hl (k := 1) rfl (by decide) (by decide) rfl (fun ls hl => ?_)
      refine lv_pc (q := 70) rfl ?_
      refine lv_iload_n hx hb dJ6_numberOfTrailingZeros_0f7a4_70 rfl (lv_at hl 1 rfl) ?_
      refine lv_iconst (v := 2) hx hb dJ6_numberOfTrailingZeros_0f7a4_71 (by decide) ?_
      refine lv_iushr (v := nI (((a14 / 65536) / 256) / 4)) hx hb dJ6_numberOfTrailingZeros_0f7a4_72 (by exact pk_ushrN (by omega) _ 2 (by decide)) ?_
      refine lv_istore_n (lv' := [(0, .int (nI (((a14 / 65536) / 256) / 4))), (1, .int 27)]) hx hb dJ6_numberOfTrailingZeros_0f7a4_73 rfl hl (by decide) rfl (fun ls hl => ?_)
      refine lv_iload_n hx hb dJ6_numberOfTrailingZeros_0f7a4_74 rfl (lv_at hl 1 rfl) ?_
      refine lv_iload_n hx hb dJ6_numberOfTrailingZeros_0f7a4_75 rfl (lv_at hl 0 rfl) ?_
      refine lv_pc (q := 76) rfl ?_
      refine lv_iconst (v := 1) hx hb dJ6_numberOfTrailingZeros_0f7a4_76 (by decide) ?_
      refine lv_iushr (v := nI ((((a14 / 65536) / 256) / 4) / 2)) hx hb dJ6_numberOfTrailingZeros_0f7a4_77 (by exact pk_ushrN (by omega) _ 1 (by decide)) ?_
      refine lv_iadd hx hb dJ6_numberOfTrailingZeros_0f7a4_78 ?_
      refine lv_fixi (y := (nI (27 + ((((a14 / 65536) / 256) / 4) / 2)))) (by rw [show (27 : Int32) = nI 27 from rfl, nI_add]) ?_
      exact uRi () B ⟨27 + ((((a14 / 65536) / 256) / 4) / 2), by omega, rfl⟩ (uSub hP [] rfl) (hD.sub [] rfl rfl) hS dJ6_numberOfTrailingZeros_0f7a4_79
    have k_19 : ¬ ((a14 / 65536) / 256) ≤ 16 := fun h9 => c19 ((nI_leI (a := (a14 / 65536) / 256) (b := 16) (by omega) (by omega)).mpr h9)
    refine lv_iinc (v := 29) (lv' := [(1, .int 29), (0, .int (nI ((a14 / 65536) / 256)))]) hx hb dJ6_numberOfTrailingZeros_0f7a4_55 hl (k := 1) rfl (by decide) (by decide) rfl (fun ls hl => ?_)
    refine lv_iload_n hx hb dJ6_numberOfTrailingZeros_0f7a4_58 rfl (lv_at hl 1 rfl) ?_
    refine lv_iconst (v := 4) hx hb dJ6_numberOfTrailingZeros_0f7a4_59 (by decide) ?_
    refine lv_iushr (v := nI (((a14 / 65536) / 256) / 16)) hx hb dJ6_numberOfTrailingZeros_0f7a4_60 (by exact pk_ushrN (by omega) _ 4 (by decide)) ?_
    refine lv_pc (q := 61) rfl ?_
    refine lv_istore_n (lv' := [(0, .int (nI (((a14 / 65536) / 256) / 16))), (1, .int 29)]) hx hb dJ6_numberOfTrailingZeros_0f7a4_61 rfl hl (by decide) rfl (fun ls hl => ?_)
    refine lv_iload_n hx hb dJ6_numberOfTrailingZeros_0f7a4_62 rfl (lv_at hl 0 rfl) ?_
    refine lv_iconst (v := 4) hx hb dJ6_numberOfTrailingZeros_0f7a4_63 (by decide) ?_
    refine lv_icmp_le (tgt := 74) hx hb dJ6_numberOfTrailingZeros_0f7a4_64 (by decide) (fun c21 => ?_) (fun c21 => ?_)
    · have k_21 : (((a14 / 65536) / 256) / 16) ≤ 4 := (nI_leI (a := ((a14 / 65536) / 256) / 16) (b := 4) (by omega) (by omega)).mp c21
      refine lv_iload_n hx hb dJ6_numberOfTrailingZeros_0f7a4_74 rfl (lv_at hl 1 rfl) ?_
      refine lv_iload_n hx hb dJ6_numberOfTrailingZeros_0f7a4_75 rfl (lv_at hl 0 rfl) ?_
      refine lv_pc (q := 76) rfl ?_
      refine lv_iconst (v := 1) hx hb dJ6_numberOfTrailingZeros_0f7a4_76 (by decide) ?_
      refine lv_iushr (v := nI ((((a14 / 65536) / 256) / 16) / 2)) hx hb dJ6_numberOfTrailingZeros_0f7a4_77 (by exact pk_ushrN (by omega) _ 1 (by decide)) ?_
      refine lv_iadd hx hb dJ6_numberOfTrailingZeros_0f7a4_78 ?_
      refine lv_fixi (y := (nI (29 + ((((a14 / 65536) / 256) / 16) / 2)))) (by rw [show (29 : Int32) = nI 29 from rfl, nI_add]) ?_
      exact uRi () B ⟨29 + ((((a14 / 65536) / 256) / 16) / 2), by omega, rfl⟩ (uSub hP [] rfl) (hD.sub [] rfl rfl) hS dJ6_numberOfTrailingZeros_0f7a4_79
    have k_21 : ¬ (((a14 / 65536) / 256) / 16) ≤ 4 := fun h9 => c21 ((nI_leI (a := ((a14 / 65536) / 256) / 16) (b := 4) (by omega) (by omega)).mpr h9)
    refine lv_iinc (v := 31) (lv' := [(1, .int 31), (0, .int (nI (((a14 / 65536) / 256) / 16)))]) hx hb dJ6_numberOfTrailingZeros_0f7a4_67 hl (k := 1) rfl (by decide) (by decide) rfl (fun ls hl => ?_)
    refine lv_iload_n hx hb dJ6_numberOfTrailingZeros_0f7a4_70 rfl (lv_at hl 1 rfl) ?_
    refine lv_pc (q := 71) rfl ?_
    refine lv_iconst (v := 2) hx hb dJ6_numberOfTrailingZeros_0f7a4_71 (by decide) ?_
    refine lv_iushr (v := nI ((((a14 / 65536) / 256) / 16) / 4)) hx hb dJ6_numberOfTrailingZeros_0f7a4_72 (by exact pk_ushrN (by omega) _ 2 (by decide)) ?_
    refine lv_istore_n (lv' := [(0, .int (nI ((((a14 / 65536) / 256) / 16) / 4))), (1, .int 31)]) hx hb dJ6_numberOfTrailingZeros_0f7a4_73 rfl hl (by decide) rfl (fun ls hl => ?_)
    refine lv_iload_n hx hb dJ6_numberOfTrailingZeros_0f7a4_74 rfl (lv_at hl 1 rfl) ?_
    refine lv_iload_n hx hb dJ6_numberOfTrailingZeros_0f7a4_75 rfl (lv_at hl 0 rfl) ?_
    refine lv_iconst (v := 1) hx hb dJ6_numberOfTrailingZeros_0f7a4_76 (by decide) ?_
    refine lv_pc (q := 77) rfl ?_
    refine lv_iushr (v := nI (((((a14 / 65536) / 256) / 16) / 4) / 2)) hx hb dJ6_numberOfTrailingZeros_0f7a4_77 (by exact pk_ushrN (by omega) _ 1 (by decide)) ?_
    refine lv_iadd hx hb dJ6_numberOfTrailingZeros_0f7a4_78 ?_
    refine lv_fixi (y := (nI (31 + (((((a14 / 65536) / 256) / 16) / 4) / 2)))) (by rw [show (31 : Int32) = nI 31 from rfl, nI_add]) ?_
    exact uRi () B ⟨31 + (((((a14 / 65536) / 256) / 16) / 4) / 2), by omega, rfl⟩ (uSub hP [] rfl) (hD.sub [] rfl rfl) hS dJ6_numberOfTrailingZeros_0f7a4_79
  refine lv_iload_n hx hb dJ6_numberOfTrailingZeros_0f7a4_12 rfl (lv_at hl 0 rfl) ?_
  refine lv_pc (q := 13) rfl ?_
  refine lv_bipush (v := 32) hx hb dJ6_numberOfTrailingZeros_0f7a4_13 (by decide) ?_
  refine lv_iand hx hb dJ6_numberOfTrailingZeros_0f7a4_15 ?_
  obtain ⟨a22, ha22, ea22⟩ := uAnd32 ((x0 ^^^ (-1)) &&& (x0 - 1))
  refine lv_fixi (y := (nI a22)) ea22 ?_
  exact uRi () B ⟨a22, by omega, rfl⟩ (uSub hP [] rfl) (hD.sub [] rfl rfl) hS dJ6_numberOfTrailingZeros_0f7a4_16
def qwJ6_bitCount_0f7a4 (x0 : Int32) : Int32 → (Unit) → Prop := (fun (r : Int32) (u : Unit) => True)
def vwJ6_bitCount_0f7a4 (K : Nat → ClassId) (x0 : Int32) : (Unit) → va_W := (fun (u : Unit) => [])
set_option maxHeartbeats 4000000 in
set_option maxRecDepth 100000 in
theorem wJ6_bitCount_0f7a4 (l : Launch) (D : va_G) (K : Nat → ClassId) (sz : Nat) (x0 : Int32) : uMi l yJ6_bitCount_0f7a4 cJ6_bitCount_0f7a4 1 (some .int) { frames := 0, cells := 0, slots := 0, locals := 0 } [.int x0] D K [] sz (qwJ6_bitCount_0f7a4 x0) (vwJ6_bitCount_0f7a4 K x0) := by
  refine uMet (Qc := uQi D (qwJ6_bitCount_0f7a4 x0) (vwJ6_bitCount_0f7a4 K x0)) (ret := (some .int)) (by decide) (Nat.le_of_ble_eq_true rfl) ?_
  intro p e s m below meth c A ls hAe hsz B hP hD hS hl
  have hx := B.1
  have hb := B.2.1
  have hl : lv_has ls 1 [(0, .int x0)] := hl
  refine lv_iload_n hx hb dJ6_bitCount_0f7a4_0 rfl (lv_at hl 0 rfl) ?_
  refine lv_iload_n hx hb dJ6_bitCount_0f7a4_1 rfl (lv_at hl 0 rfl) ?_
  refine lv_iconst (v := 1) hx hb dJ6_bitCount_0f7a4_2 (by decide) ?_
  refine lv_iushr (v := ((x0.toUInt32 >>> ((1 : Int32).toUInt32 &&& Int32.toUInt32 31)).toInt32)) hx hb dJ6_bitCount_0f7a4_3 rfl ?_
  refine uLdcw B mct_J6_265 dJ6_bitCount_0f7a4_4 ?_
  refine lv_pc (q := 7) rfl ?_
  refine lv_iand hx hb dJ6_bitCount_0f7a4_7 ?_
  refine lv_isub hx hb dJ6_bitCount_0f7a4_8 ?_
  refine lv_topi (fun y1 ey1 => ?_)
  clear ey1
  refine lv_istore_n (lv' := [(0, .int y1)]) hx hb dJ6_bitCount_0f7a4_9 rfl hl (by decide) rfl (fun ls hl => ?_)
  refine lv_iload_n hx hb dJ6_bitCount_0f7a4_10 rfl (lv_at hl 0 rfl) ?_
  refine uLdcw B mct_J6_266 dJ6_bitCount_0f7a4_11 ?_
  refine lv_iand hx hb dJ6_bitCount_0f7a4_14 ?_
  refine lv_pc (q := 15) rfl ?_
  refine lv_iload_n hx hb dJ6_bitCount_0f7a4_15 rfl (lv_at hl 0 rfl) ?_
  refine lv_iconst (v := 2) hx hb dJ6_bitCount_0f7a4_16 (by decide) ?_
  refine lv_iushr (v := ((y1.toUInt32 >>> ((2 : Int32).toUInt32 &&& Int32.toUInt32 31)).toInt32)) hx hb dJ6_bitCount_0f7a4_17 rfl ?_
  refine uLdcw B mct_J6_266 dJ6_bitCount_0f7a4_18 ?_
  refine lv_iand hx hb dJ6_bitCount_0f7a4_21 ?_
  refine lv_iadd hx hb dJ6_bitCount_0f7a4_22 ?_
  refine lv_pc (q := 23) rfl ?_
  refine lv_topi (fun y2 ey2 => ?_)
  clear ey2
  refine lv_istore_n (lv' := [(0, .int y2)]) hx hb dJ6_bitCount_0f7a4_23 rfl hl (by decide) rfl (fun ls hl => ?_)
  refine lv_iload_n hx hb dJ6_bitCount_0f7a4_24 rfl (lv_at hl 0 rfl) ?_
  refine lv_iload_n hx hb dJ6_bitCount_0f7a4_25 rfl (lv_at hl 0 rfl) ?_
  refine lv_iconst (v := 4) hx hb dJ6_bitCount_0f7a4_26 (by decide) ?_
  refine lv_iushr (v := ((y2.toUInt32 >>> ((4 : Int32).toUInt32 &&& Int32.toUInt32 31)).toInt32)) hx hb dJ6_bitCount_0f7a4_27 rfl ?_
  refine lv_iadd hx hb dJ6_bitCount_0f7a4_28 ?_
  refine lv_pc (q := 29) rfl ?_
  refine uLdcw B mct_J6_267 dJ6_bitCount_0f7a4_29 ?_
  refine lv_iand hx hb dJ6_bitCount_0f7a4_32 ?_
  refine lv_topi (fun y3 ey3 => ?_)
  clear ey3
  refine lv_istore_n (lv' := [(0, .int y3)]) hx hb dJ6_bitCount_0f7a4_33 rfl hl (by decide) rfl (fun ls hl => ?_)
  refine lv_iload_n hx hb dJ6_bitCount_0f7a4_34 rfl (lv_at hl 0 rfl) ?_
  refine lv_iload_n hx hb dJ6_bitCount_0f7a4_35 rfl (lv_at hl 0 rfl) ?_
  refine lv_bipush (v := 8) hx hb dJ6_bitCount_0f7a4_36 (by decide) ?_
  refine lv_pc (q := 38) rfl ?_
  refine lv_iushr (v := ((y3.toUInt32 >>> ((8 : Int32).toUInt32 &&& Int32.toUInt32 31)).toInt32)) hx hb dJ6_bitCount_0f7a4_38 rfl ?_
  refine lv_iadd hx hb dJ6_bitCount_0f7a4_39 ?_
  refine lv_topi (fun y4 ey4 => ?_)
  clear ey4
  refine lv_istore_n (lv' := [(0, .int y4)]) hx hb dJ6_bitCount_0f7a4_40 rfl hl (by decide) rfl (fun ls hl => ?_)
  refine lv_iload_n hx hb dJ6_bitCount_0f7a4_41 rfl (lv_at hl 0 rfl) ?_
  refine lv_iload_n hx hb dJ6_bitCount_0f7a4_42 rfl (lv_at hl 0 rfl) ?_
  refine lv_bipush (v := 16) hx hb dJ6_bitCount_0f7a4_43 (by decide) ?_
  refine lv_pc (q := 45) rfl ?_
  refine lv_iushr (v := ((y4.toUInt32 >>> ((16 : Int32).toUInt32 &&& Int32.toUInt32 31)).toInt32)) hx hb dJ6_bitCount_0f7a4_45 rfl ?_
  refine lv_iadd hx hb dJ6_bitCount_0f7a4_46 ?_
  refine lv_topi (fun y5 ey5 => ?_)
  clear ey5
  refine lv_istore_n (lv' := [(0, .int y5)]) hx hb dJ6_bitCount_0f7a4_47 rfl hl (by decide) rfl (fun ls hl => ?_)
  refine lv_iload_n hx hb dJ6_bitCount_0f7a4_48 rfl (lv_at hl 0 rfl) ?_
  refine lv_bipush (v := 63) hx hb dJ6_bitCount_0f7a4_49 (by decide) ?_
  refine lv_iand hx hb dJ6_bitCount_0f7a4_51 ?_
  refine lv_pc (q := 52) rfl ?_
  exact uRi () B trivial (uSub hP [] rfl) (hD.sub [] rfl rfl) hS dJ6_bitCount_0f7a4_52
def qwX1_standingAs (a_L : Nat) (v_L_found : Int32) (v_L_supposed : Int32) (a_P : Nat) (v_P_size : Nat) (a_P_states : Nat) (f_P_states : Nat → Int32) (a_N : Nat) (v_N_size : Nat) (v_N_drawnFor : Int32) (v_N_agree : Int32) (v_N_quietUpTo : Nat) (a_N_least : Nat) (f_N_least : Nat → Int32) (a_N_greatest : Nat) (f_N_greatest : Nat → Int32) (a_S : Nat) (a_L_near : Nat) (a_L_clear : Nat) (a_T : Nat) (a_P_xs : Nat) (a_P_ys : Nat) (a_P_cells : Nat) (a_P_lows : Nat) (a_P_highs : Nat) (a_P_men : Nat) (a_P_stores : Nat) (a_N_sorts : Nat) (a_N_firsts : Nat) (a_N_seconds : Nat) (a_N_struck : Nat) (x0 : Int32) (x1 : Int32) (x2 : Int32) : Int32 → (Unit) → Prop := (fun (r : Int32) (u : Unit) => True)
def vwX1_standingAs (K : Nat → ClassId) (a_L : Nat) (v_L_found : Int32) (v_L_supposed : Int32) (a_P : Nat) (v_P_size : Nat) (a_P_states : Nat) (f_P_states : Nat → Int32) (a_N : Nat) (v_N_size : Nat) (v_N_drawnFor : Int32) (v_N_agree : Int32) (v_N_quietUpTo : Nat) (a_N_least : Nat) (f_N_least : Nat → Int32) (a_N_greatest : Nat) (f_N_greatest : Nat → Int32) (a_S : Nat) (a_L_near : Nat) (a_L_clear : Nat) (a_T : Nat) (a_P_xs : Nat) (a_P_ys : Nat) (a_P_cells : Nat) (a_P_lows : Nat) (a_P_highs : Nat) (a_P_men : Nat) (a_P_stores : Nat) (a_N_sorts : Nat) (a_N_firsts : Nat) (a_N_seconds : Nat) (a_N_struck : Nat) (x0 : Int32) (x1 : Int32) (x2 : Int32) : (Unit) → va_W := (fun (u : Unit) => [(a_L, .inr (1, [.ref a_P, .ref a_N, .ref a_S, .ref a_L_near, .ref a_L_clear, .int v_L_found, .int v_L_supposed])), (a_P, .inr (4, [.ref a_T, .ref a_P_xs, .ref a_P_ys, .ref a_P_cells, .ref a_P_lows, .ref a_P_highs, .ref a_P_states, .ref a_P_men, .ref a_P_stores, .int (nI v_P_size)])), (a_P_states, .inl (K 0, 12, .inl f_P_states)), (a_N, .inr (3, [.ref a_N_sorts, .ref a_N_firsts, .ref a_N_seconds, .ref a_N_struck, .ref a_N_least, .ref a_N_greatest, .int (nI v_N_size), .int v_N_drawnFor, .int v_N_agree, .int (nI v_N_quietUpTo)])), (a_N_least, .inl (K 0, 24, .inl f_N_least)), (a_N_greatest, .inl (K 0, 24, .inl f_N_greatest))])
set_option maxHeartbeats 4000000 in
set_option maxRecDepth 100000 in
theorem wX1_standingAs (l : Launch) (D : va_G) (K : Nat → ClassId) (sz : Nat) (a_L : Nat) (v_L_found : Int32) (v_L_supposed : Int32) (a_P : Nat) (v_P_size : Nat) (a_P_states : Nat) (f_P_states : Nat → Int32) (a_N : Nat) (v_N_size : Nat) (v_N_drawnFor : Int32) (v_N_agree : Int32) (v_N_quietUpTo : Nat) (a_N_least : Nat) (f_N_least : Nat → Int32) (a_N_greatest : Nat) (f_N_greatest : Nat → Int32) (a_S : Nat) (a_L_near : Nat) (a_L_clear : Nat) (a_T : Nat) (a_P_xs : Nat) (a_P_ys : Nat) (a_P_cells : Nat) (a_P_lows : Nat) (a_P_highs : Nat) (a_P_men : Nat) (a_P_stores : Nat) (a_N_sorts : Nat) (a_N_firsts : Nat) (a_N_seconds : Nat) (a_N_struck : Nat) (x0 : Int32) (x1 : Int32) (x2 : Int32) (hv_P_size : v_P_size ≤ 12) (hv_N_size : v_N_size ≤ 60) (hv_N_agree : v_N_agree = 0 ∨ v_N_agree = 1) (hv_N_quietUpTo : v_N_quietUpTo ≤ 60) : uMi l yX1_standingAs cX1_standingAs 6 (some .int) { frames := 2, cells := 0, slots := 0, locals := 42 } [.ref a_L, .int x0, .int x1, .int x2] D K [(a_L, .inr (1, [.ref a_P, .ref a_N, .ref a_S, .ref a_L_near, .ref a_L_clear, .int v_L_found, .int v_L_supposed])), (a_P, .inr (4, [.ref a_T, .ref a_P_xs, .ref a_P_ys, .ref a_P_cells, .ref a_P_lows, .ref a_P_highs, .ref a_P_states, .ref a_P_men, .ref a_P_stores, .int (nI v_P_size)])), (a_P_states, .inl (K 0, 12, .inl f_P_states)), (a_N, .inr (3, [.ref a_N_sorts, .ref a_N_firsts, .ref a_N_seconds, .ref a_N_struck, .ref a_N_least, .ref a_N_greatest, .int (nI v_N_size), .int v_N_drawnFor, .int v_N_agree, .int (nI v_N_quietUpTo)])), (a_N_least, .inl (K 0, 24, .inl f_N_least)), (a_N_greatest, .inl (K 0, 24, .inl f_N_greatest))] sz (qwX1_standingAs a_L v_L_found v_L_supposed a_P v_P_size a_P_states f_P_states a_N v_N_size v_N_drawnFor v_N_agree v_N_quietUpTo a_N_least f_N_least a_N_greatest f_N_greatest a_S a_L_near a_L_clear a_T a_P_xs a_P_ys a_P_cells a_P_lows a_P_highs a_P_men a_P_stores a_N_sorts a_N_firsts a_N_seconds a_N_struck x0 x1 x2) (vwX1_standingAs K a_L v_L_found v_L_supposed a_P v_P_size a_P_states f_P_states a_N v_N_size v_N_drawnFor v_N_agree v_N_quietUpTo a_N_least f_N_least a_N_greatest f_N_greatest a_S a_L_near a_L_clear a_T a_P_xs a_P_ys a_P_cells a_P_lows a_P_highs a_P_men a_P_stores a_N_sorts a_N_firsts a_N_seconds a_N_struck x0 x1 x2) := by
  refine uMet (Qc := uQi D (qwX1_standingAs a_L v_L_found v_L_supposed a_P v_P_size a_P_states f_P_states a_N v_N_size v_N_drawnFor v_N_agree v_N_quietUpTo a_N_least f_N_least a_N_greatest f_N_greatest a_S a_L_near a_L_clear a_T a_P_xs a_P_ys a_P_cells a_P_lows a_P_highs a_P_men a_P_stores a_N_sorts a_N_firsts a_N_seconds a_N_struck x0 x1 x2) (vwX1_standingAs K a_L v_L_found v_L_supposed a_P v_P_size a_P_states f_P_states a_N v_N_size v_N_drawnFor v_N_agree v_N_quietUpTo a_N_least f_N_least a_N_greatest f_N_greatest a_S a_L_near a_L_clear a_T a_P_xs a_P_ys a_P_cells a_P_lows a_P_highs a_P_men a_P_stores a_N_sorts a_N_firsts a_N_seconds a_N_struck x0 x1 x2)) (ret := (some .int)) (by decide) (Nat.le_of_ble_eq_true rfl) ?_
  intro p e s m below meth c A ls hAe hsz B hP hD hS hl
  have hx := B.1
  have hb := B.2.1
  have hl : lv_has ls 6 [(0, .ref a_L), (1, .int x0), (2, .int x1), (3, .int x2)] := hl
  refine lv_iconst (v := 0) hx hb dX1_standingAs_0 (by decide) ?_
  refine lv_istore (lv' := [(4, .int 0), (0, .ref a_L), (1, .int x0), (2, .int x1), (3, .int x2)]) hx hb dX1_standingAs_1 hl (by decide) rfl (fun ls hl => ?_)
  refine lv_iconst (v := 0) hx hb dX1_standingAs_3 (by decide) ?_
  refine lv_istore (lv' := [(5, .int 0), (4, .int 0), (0, .ref a_L), (1, .int x0), (2, .int x1), (3, .int x2)]) hx hb dX1_standingAs_4 hl (by decide) rfl (fun ls hl => ?_)
  have L4 : ∀ (n9 : Nat) (j1 : Nat) (y2 : Int32), (j1 ≤ v_P_size) → v_P_size - j1 < n9 → ∀ (H : Heap) (locs : List Loc) (ls : Array Slot), va_P D vwCl [(a_L, .inr (1, [.ref a_P, .ref a_N, .ref a_S, .ref a_L_near, .ref a_L_clear, .int v_L_found, .int v_L_supposed])), (a_P, .inr (4, [.ref a_T, .ref a_P_xs, .ref a_P_ys, .ref a_P_cells, .ref a_P_lows, .ref a_P_highs, .ref a_P_states, .ref a_P_men, .ref a_P_stores, .int (nI v_P_size)])), (a_P_states, .inl (K 0, 12, .inl f_P_states)), (a_N, .inr (3, [.ref a_N_sorts, .ref a_N_firsts, .ref a_N_seconds, .ref a_N_struck, .ref a_N_least, .ref a_N_greatest, .int (nI v_N_size), .int v_N_drawnFor, .int v_N_agree, .int (nI v_N_quietUpTo)])), (a_N_least, .inl (K 0, 24, .inl f_N_least)), (a_N_greatest, .inl (K 0, 24, .inl f_N_greatest))] H → va_D A [(a_L, .inr (1, [.ref a_P, .ref a_N, .ref a_S, .ref a_L_near, .ref a_L_clear, .int v_L_found, .int v_L_supposed])), (a_P, .inr (4, [.ref a_T, .ref a_P_xs, .ref a_P_ys, .ref a_P_cells, .ref a_P_lows, .ref a_P_highs, .ref a_P_states, .ref a_P_men, .ref a_P_stores, .int (nI v_P_size)])), (a_P_states, .inl (K 0, 12, .inl f_P_states)), (a_N, .inr (3, [.ref a_N_sorts, .ref a_N_firsts, .ref a_N_seconds, .ref a_N_struck, .ref a_N_least, .ref a_N_greatest, .int (nI v_N_size), .int v_N_drawnFor, .int v_N_agree, .int (nI v_N_quietUpTo)])), (a_N_least, .inl (K 0, 24, .inl f_N_least)), (a_N_greatest, .inl (K 0, 24, .inl f_N_greatest))] → va_S A s.heap H locs → lv_has ls 6 [(5, .int (nI j1)), (4, .int y2), (0, .ref a_L), (1, .int x0), (2, .int x1), (3, .int x2)] → W p l e { frames := 2, cells := 0, slots := 0, locals := 42 } s m ([.ref a_L, .int x0, .int x1, .int x2] : List Value).toArray below meth c H locs 0 0 (MQ below (uQi D (qwX1_standingAs a_L v_L_found v_L_supposed a_P v_P_size a_P_states f_P_states a_N v_N_size v_N_drawnFor v_N_agree v_N_quietUpTo a_N_least f_N_least a_N_greatest f_N_greatest a_S a_L_near a_L_clear a_T a_P_xs a_P_ys a_P_cells a_P_lows a_P_highs a_P_men a_P_stores a_N_sorts a_N_firsts a_N_seconds a_N_struck x0 x1 x2) (vwX1_standingAs K a_L v_L_found v_L_supposed a_P v_P_size a_P_states f_P_states a_N v_N_size v_N_drawnFor v_N_agree v_N_quietUpTo a_N_least f_N_least a_N_greatest f_N_greatest a_S a_L_near a_L_clear a_T a_P_xs a_P_ys a_P_cells a_P_lows a_P_highs a_P_men a_P_stores a_N_sorts a_N_firsts a_N_seconds a_N_struck x0 x1 x2) A) ([.ref a_L, .int x0, .int x1, .int x2] : List Value).toArray s 0 0 A) (F0 m 6 ls []) := by
    intro n9
    induction n9 with
    | zero => intros; exact absurd ‹_ < 0› (Nat.not_lt_zero _)
    | succ n6_ ih6 =>
      intro j1 y2 hj1 hm6 H locs ls hP hD hS hl
      refine lv_iload hx hb dX1_standingAs_6 (lv_at hl 0 rfl) ?_
      refine lv_pc (q := 8) rfl ?_
      refine lv_aload_n hx hb dX1_standingAs_8 rfl (lv_at hl 2 rfl) ?_
      refine uGet (ci := 1) (C := RX1) (T := TX1) (N := 7) (v := .ref a_P) B inlX1 hP 0 rfl rfl 0 rfl mfl_X1_25 rfl rfl dX1_standingAs_9 ?_
      refine uGet (ci := 4) (C := RX4) (T := TX4) (N := 10) (v := .int (nI v_P_size)) B inlX4 hP 1 rfl rfl 9 rfl mfl_X1_56 rfl rfl dX1_standingAs_12 ?_
      refine lv_icmp_ge (tgt := 61) hx hb dX1_standingAs_15 (by decide) (fun c5 => ?_) (fun c5 => ?_)
      · have k_5 : v_P_size ≤ j1 := (nI_leI (a := v_P_size) (b := j1) (by omega) (by omega)).mp c5
        refine lv_iload hx hb dX1_standingAs_61 (lv_at hl 1 rfl) ?_
        exact uRi () B trivial (uSub hP [0, 1, 2, 3, 4, 5] rfl) (hD.sub [0, 1, 2, 3, 4, 5] rfl rfl) hS dX1_standingAs_63
      have k_5 : ¬ v_P_size ≤ j1 := fun h9 => c5 ((nI_leI (a := v_P_size) (b := j1) (by omega) (by omega)).mpr h9)
      refine lv_aload_n hx hb dX1_standingAs_18 rfl (lv_at hl 2 rfl) ?_
      refine uGet (ci := 1) (C := RX1) (T := TX1) (N := 7) (v := .ref a_P) B inlX1 hP 0 rfl rfl 0 rfl mfl_X1_25 rfl rfl dX1_standingAs_19 ?_
      refine lv_pc (q := 22) rfl ?_
      refine uGet (ci := 4) (C := RX4) (T := TX4) (N := 10) (v := .ref a_P_states) B inlX4 hP 1 rfl rfl 6 rfl mfl_X1_69 rfl rfl dX1_standingAs_22 ?_
      refine lv_iload hx hb dX1_standingAs_25 (lv_at hl 0 rfl) ?_
      refine uIald (i := (nI j1)) (j := j1) B hP 2 rfl (nI_in (by omega) (by omega)) (nI_clamp (by omega)) dX1_standingAs_27 ?_
      refine lv_iload_n hx hb dX1_standingAs_28 rfl (lv_at hl 3 rfl) ?_
      refine lv_icmp_ne (tgt := 55) hx hb dX1_standingAs_29 (by decide) (fun c6 => ?_) (fun c6 => ?_)
      · refine lv_iinc (v := nI (j1 + 1)) (lv' := [(5, .int (nI (j1 + 1))), (4, .int y2), (0, .ref a_L), (1, .int x0), (2, .int x1), (3, .int x2)]) hx hb dX1_standingAs_55 hl (k := 0) rfl (nI_1 _) (by decide) rfl (fun ls hl => ?_)
        refine lv_pc (q := 58) rfl ?_
        refine lv_goto (tgt := 6) hx hb dX1_standingAs_58 (by decide) ?_
        refine lv_pc (q := 6) rfl ?_
        refine W.widen (k := 0) (n := 0) (Nat.le_of_ble_eq_true rfl) (Nat.le_of_ble_eq_true rfl) ?_
        exact ih6 (j1 + 1) y2 (by omega) (by omega) _ _ _ (uSub hP [0, 1, 2, 3, 4, 5] rfl) (hD.sub [0, 1, 2, 3, 4, 5] rfl rfl) hS (lv_sub hl [0, 1, 2, 3, 4, 5] rfl)
      refine lv_aload_n hx hb dX1_standingAs_32 rfl (lv_at hl 2 rfl) ?_
      refine lv_pc (q := 33) rfl ?_
      refine uGet (ci := 1) (C := RX1) (T := TX1) (N := 7) (v := .ref a_N) B inlX1 hP 0 rfl rfl 1 rfl mfl_X1_29 rfl rfl dX1_standingAs_33 ?_
      refine lv_iload hx hb dX1_standingAs_36 (lv_at hl 0 rfl) ?_
      refine lv_iload_n hx hb dX1_standingAs_38 rfl (lv_at hl 4 rfl) ?_
      refine uVi (As := [.int (nI j1), .int x1]) (rest := []) (wr := [(a_L, .inr (1, [.ref a_P, .ref a_N, .ref a_S, .ref a_L_near, .ref a_L_clear, .int v_L_found, .int v_L_supposed])), (a_P, .inr (4, [.ref a_T, .ref a_P_xs, .ref a_P_ys, .ref a_P_cells, .ref a_P_lows, .ref a_P_highs, .ref a_P_states, .ref a_P_men, .ref a_P_stores, .int (nI v_P_size)])), (a_P_states, .inl (K 0, 12, .inl f_P_states))]) [(a_N, .inr (3, [.ref a_N_sorts, .ref a_N_firsts, .ref a_N_seconds, .ref a_N_struck, .ref a_N_least, .ref a_N_greatest, .int (nI v_N_size), .int v_N_drawnFor, .int v_N_agree, .int (nI v_N_quietUpTo)])), (a_N_least, .inl (K 0, 24, .inl f_N_least)), (a_N_greatest, .inl (K 0, 24, .inl f_N_greatest))] B hl.1 hP hD hS [3, 4, 5] [0, 1, 2] rfl rfl rfl (wX3_standing l D K _ a_N v_N_size v_N_drawnFor v_N_agree v_N_quietUpTo a_N_least f_N_least a_N_greatest f_N_greatest a_N_sorts a_N_firsts a_N_seconds a_N_struck j1 x1 (by omega) hv_N_agree (by omega) (by omega)) wd_X3_standing mml_X1_72 rfl rfl rfl rfl ⟨Nat.le_of_ble_eq_true rfl, Nat.le_of_ble_eq_true rfl⟩ (Nat.le_of_ble_eq_true rfl) ⟨Nat.le_of_ble_eq_true rfl, Nat.le_of_ble_eq_true rfl⟩ dX1_standingAs_39 (fun r7 u H locs hw hP hD hS => ?_)
      try dsimp only at hw
      have hP : va_P D vwCl [(a_L, .inr (1, [.ref a_P, .ref a_N, .ref a_S, .ref a_L_near, .ref a_L_clear, .int v_L_found, .int v_L_supposed])), (a_P, .inr (4, [.ref a_T, .ref a_P_xs, .ref a_P_ys, .ref a_P_cells, .ref a_P_lows, .ref a_P_highs, .ref a_P_states, .ref a_P_men, .ref a_P_stores, .int (nI v_P_size)])), (a_P_states, .inl (K 0, 12, .inl f_P_states)), (a_N, .inr (3, [.ref a_N_sorts, .ref a_N_firsts, .ref a_N_seconds, .ref a_N_struck, .ref a_N_least, .ref a_N_greatest, .int (nI v_N_size), .int v_N_drawnFor, .int v_N_agree, .int (nI v_N_quietUpTo)])), (a_N_least, .inl (K 0, 24, .inl f_N_least)), (a_N_greatest, .inl (K 0, 24, .inl f_N_greatest))] H := hP
      have hD := uDPJ hP hD
      refine lv_iload_n hx hb dX1_standingAs_42 rfl (lv_at hl 5 rfl) ?_
      refine lv_icmp_lt (tgt := 55) hx hb dX1_standingAs_43 (by decide) (fun c8 => ?_) (fun c8 => ?_)
      · refine lv_pc (q := 55) rfl ?_
        refine lv_iinc (v := nI (j1 + 1)) (lv' := [(5, .int (nI (j1 + 1))), (4, .int y2), (0, .ref a_L), (1, .int x0), (2, .int x1), (3, .int x2)]) hx hb dX1_standingAs_55 hl (k := 0) rfl (nI_1 _) (by decide) rfl (fun ls hl => ?_)
        refine lv_goto (tgt := 6) hx hb dX1_standingAs_58 (by decide) ?_
        refine lv_pc (q := 6) rfl ?_
        refine W.widen (k := 0) (n := 0) (Nat.le_of_ble_eq_true rfl) (Nat.le_of_ble_eq_true rfl) ?_
        exact ih6 (j1 + 1) y2 (by omega) (by omega) _ _ _ (uSub hP [0, 1, 2, 3, 4, 5] rfl) (hD.sub [0, 1, 2, 3, 4, 5] rfl rfl) hS (lv_sub hl [0, 1, 2, 3, 4, 5] rfl)
      refine lv_pc (q := 46) rfl ?_
      refine lv_iload hx hb dX1_standingAs_46 (lv_at hl 1 rfl) ?_
      refine lv_iconst (v := 1) hx hb dX1_standingAs_48 (by decide) ?_
      refine lv_iload hx hb dX1_standingAs_49 (lv_at hl 0 rfl) ?_
      refine lv_ishl hx hb dX1_standingAs_51 ?_
      refine lv_ior hx hb dX1_standingAs_52 ?_
      refine lv_istore (lv' := [(4, .int (y2 ||| (1 <<< ((nI j1) &&& 31)))), (5, .int (nI j1)), (0, .ref a_L), (1, .int x0), (2, .int x1), (3, .int x2)]) hx hb dX1_standingAs_53 hl (by decide) rfl (fun ls hl => ?_)
      refine lv_pc (q := 55) rfl ?_
      refine lv_iinc (v := nI (j1 + 1)) (lv' := [(5, .int (nI (j1 + 1))), (4, .int (y2 ||| (1 <<< ((nI j1) &&& 31)))), (0, .ref a_L), (1, .int x0), (2, .int x1), (3, .int x2)]) hx hb dX1_standingAs_55 hl (k := 1) rfl (nI_1 _) (by decide) rfl (fun ls hl => ?_)
      refine lv_goto (tgt := 6) hx hb dX1_standingAs_58 (by decide) ?_
      refine lv_pc (q := 6) rfl ?_
      refine W.widen (k := 0) (n := 0) (Nat.le_of_ble_eq_true rfl) (Nat.le_of_ble_eq_true rfl) ?_
      exact ih6 (j1 + 1) (y2 ||| (1 <<< ((nI j1) &&& 31))) (by omega) (by omega) _ _ _ (uSub hP [0, 1, 2, 3, 4, 5] rfl) (hD.sub [0, 1, 2, 3, 4, 5] rfl rfl) hS (lv_sub hl [0, 1, 2, 3, 4, 5] rfl)
  refine lv_pc (q := 6) rfl ?_
  refine W.widen (k := 0) (n := 0) (Nat.le_of_ble_eq_true rfl) (Nat.le_of_ble_eq_true rfl) ?_
  exact L4 ((v_P_size - 0) + 1) 0 0 (by omega) (Nat.lt_succ_self _) _ _ _ hP hD hS hl
def qwX1_tie (a_L : Nat) (v_L_found : Int32) (v_L_supposed : Int32) (a_L_near : Nat) (f_L_near : Nat → Int32) (a_L_clear : Nat) (f_L_clear : Nat → Int32) (a_P : Nat) (a_N : Nat) (a_S : Nat) (x0 : Nat) (x1 : Nat) (x2 : Int32) (x3 : Int32) : ((Nat → Int32) × (Nat → Int32)) → Prop := (fun (u : (Nat → Int32) × (Nat → Int32)) => True)
def vwX1_tie (K : Nat → ClassId) (a_L : Nat) (v_L_found : Int32) (v_L_supposed : Int32) (a_L_near : Nat) (f_L_near : Nat → Int32) (a_L_clear : Nat) (f_L_clear : Nat → Int32) (a_P : Nat) (a_N : Nat) (a_S : Nat) (x0 : Nat) (x1 : Nat) (x2 : Int32) (x3 : Int32) : ((Nat → Int32) × (Nat → Int32)) → va_W := (fun (u : (Nat → Int32) × (Nat → Int32)) => [(a_L, .inr (1, [.ref a_P, .ref a_N, .ref a_S, .ref a_L_near, .ref a_L_clear, .int v_L_found, .int v_L_supposed])), (a_L_near, .inl (K 0, 12, .inl (u.1))), (a_L_clear, .inl (K 0, 12, .inl (u.2)))])
set_option maxHeartbeats 4000000 in
set_option maxRecDepth 100000 in
theorem wX1_tie (l : Launch) (D : va_G) (K : Nat → ClassId) (sz : Nat) (a_L : Nat) (v_L_found : Int32) (v_L_supposed : Int32) (a_L_near : Nat) (f_L_near : Nat → Int32) (a_L_clear : Nat) (f_L_clear : Nat → Int32) (a_P : Nat) (a_N : Nat) (a_S : Nat) (x0 : Nat) (x1 : Nat) (x2 : Int32) (x3 : Int32) (hx0 : x0 < 12) (hx1 : x1 < 12) : uMv l yX1_tie cX1_tie 5 { frames := 0, cells := 0, slots := 0, locals := 0 } [.ref a_L, .int (nI x0), .int (nI x1), .int x2, .int x3] D K [(a_L, .inr (1, [.ref a_P, .ref a_N, .ref a_S, .ref a_L_near, .ref a_L_clear, .int v_L_found, .int v_L_supposed])), (a_L_near, .inl (K 0, 12, .inl f_L_near)), (a_L_clear, .inl (K 0, 12, .inl f_L_clear))] sz (qwX1_tie a_L v_L_found v_L_supposed a_L_near f_L_near a_L_clear f_L_clear a_P a_N a_S x0 x1 x2 x3) (vwX1_tie K a_L v_L_found v_L_supposed a_L_near f_L_near a_L_clear f_L_clear a_P a_N a_S x0 x1 x2 x3) := by
  refine uMet (Qc := uQv D (qwX1_tie a_L v_L_found v_L_supposed a_L_near f_L_near a_L_clear f_L_clear a_P a_N a_S x0 x1 x2 x3) (vwX1_tie K a_L v_L_found v_L_supposed a_L_near f_L_near a_L_clear f_L_clear a_P a_N a_S x0 x1 x2 x3)) (ret := none) (by decide) (Nat.le_of_ble_eq_true rfl) ?_
  intro p e s m below meth c A ls hAe hsz B hP hD hS hl
  have hx := B.1
  have hb := B.2.1
  have hl : lv_has ls 5 [(0, .ref a_L), (1, .int (nI x0)), (2, .int (nI x1)), (3, .int x2), (4, .int x3)] := hl
  refine lv_iload_n hx hb dX1_tie_0 rfl (lv_at hl 3 rfl) ?_
  refine lv_iload hx hb dX1_tie_1 (lv_at hl 4 rfl) ?_
  refine lv_icmp_lt (tgt := 30) hx hb dX1_tie_3 (by decide) (fun c1 => ?_) (fun c1 => ?_)
  · refine lv_iload_n hx hb dX1_tie_30 rfl (lv_at hl 3 rfl) ?_
    refine lv_iconst (v := 2) hx hb dX1_tie_31 (by decide) ?_
    refine lv_pc (q := 32) rfl ?_
    refine lv_icmp_ne (tgt := 59) hx hb dX1_tie_32 (by decide) (fun c2 => ?_) (fun c2 => ?_)
    · exact uRv (f_L_near, f_L_clear) B trivial (uSub hP [0, 1, 2] rfl) (hD.sub [0, 1, 2] rfl rfl) hS dX1_tie_59
    refine lv_aload_n hx hb dX1_tie_35 rfl (lv_at hl 0 rfl) ?_
    refine uGet (ci := 1) (C := RX1) (T := TX1) (N := 7) (v := .ref a_L_clear) B inlX1 hP 0 rfl rfl 4 rfl mfl_X1_15 rfl rfl dX1_tie_36 ?_
    refine lv_iload_n hx hb dX1_tie_39 rfl (lv_at hl 1 rfl) ?_
    refine lv_dup2_11 hx hb dX1_tie_40 rfl rfl ?_
    refine uIald (i := (nI x0)) (j := x0) B hP 2 rfl (nI_in (by omega) (by omega)) (nI_clamp (by omega)) dX1_tie_41 ?_
    refine lv_pc (q := 42) rfl ?_
    refine lv_iconst (v := 1) hx hb dX1_tie_42 (by decide) ?_
    refine lv_iload_n hx hb dX1_tie_43 rfl (lv_at hl 2 rfl) ?_
    refine lv_ishl hx hb dX1_tie_44 ?_
    refine lv_ior hx hb dX1_tie_45 ?_
    refine uIast (i := (nI x0)) (j := x0) (ws' := [(a_L, .inr (1, [.ref a_P, .ref a_N, .ref a_S, .ref a_L_near, .ref a_L_clear, .int v_L_found, .int v_L_supposed])), (a_L_near, .inl (K 0, 12, .inl f_L_near)), (a_L_clear, .inl (K 0, 12, .inl (upd f_L_clear x0 ((f_L_clear x0) ||| (1 <<< ((nI x1) &&& 31))))))]) B hP hD hS 2 rfl (nI_in (by omega) (by omega)) (nI_clamp (by omega)) rfl dX1_tie_46 (fun H locs hP hD hS => ?_)
    generalize upd f_L_clear x0 ((f_L_clear x0) ||| (1 <<< ((nI x1) &&& 31))) = f3 at hP hD
    refine lv_aload_n hx hb dX1_tie_47 rfl (lv_at hl 0 rfl) ?_
    refine lv_pc (q := 48) rfl ?_
    refine uGet (ci := 1) (C := RX1) (T := TX1) (N := 7) (v := .ref a_L_clear) B inlX1 hP 0 rfl rfl 4 rfl mfl_X1_15 rfl rfl dX1_tie_48 ?_
    refine lv_iload_n hx hb dX1_tie_51 rfl (lv_at hl 2 rfl) ?_
    refine lv_dup2_11 hx hb dX1_tie_52 rfl rfl ?_
    refine uIald (i := (nI x1)) (j := x1) B hP 2 rfl (nI_in (by omega) (by omega)) (nI_clamp (by omega)) dX1_tie_53 ?_
    refine lv_iconst (v := 1) hx hb dX1_tie_54 (by decide) ?_
    refine lv_iload_n hx hb dX1_tie_55 rfl (lv_at hl 1 rfl) ?_
    refine lv_pc (q := 56) rfl ?_
    refine lv_ishl hx hb dX1_tie_56 ?_
    refine lv_ior hx hb dX1_tie_57 ?_
    refine uIast (i := (nI x1)) (j := x1) (ws' := [(a_L, .inr (1, [.ref a_P, .ref a_N, .ref a_S, .ref a_L_near, .ref a_L_clear, .int v_L_found, .int v_L_supposed])), (a_L_near, .inl (K 0, 12, .inl f_L_near)), (a_L_clear, .inl (K 0, 12, .inl (upd f3 x1 ((f3 x1) ||| (1 <<< ((nI x0) &&& 31))))))]) B hP hD hS 2 rfl (nI_in (by omega) (by omega)) (nI_clamp (by omega)) rfl dX1_tie_58 (fun H locs hP hD hS => ?_)
    exact uRv (f_L_near, upd f3 x1 ((f3 x1) ||| (1 <<< ((nI x0) &&& 31)))) B trivial (uSub hP [0, 1, 2] rfl) (hD.sub [0, 1, 2] rfl rfl) hS dX1_tie_59
  refine lv_aload_n hx hb dX1_tie_6 rfl (lv_at hl 0 rfl) ?_
  refine uGet (ci := 1) (C := RX1) (T := TX1) (N := 7) (v := .ref a_L_near) B inlX1 hP 0 rfl rfl 3 rfl mfl_X1_9 rfl rfl dX1_tie_7 ?_
  refine lv_pc (q := 10) rfl ?_
  refine lv_iload_n hx hb dX1_tie_10 rfl (lv_at hl 1 rfl) ?_
  refine lv_dup2_11 hx hb dX1_tie_11 rfl rfl ?_
  refine uIald (i := (nI x0)) (j := x0) B hP 1 rfl (nI_in (by omega) (by omega)) (nI_clamp (by omega)) dX1_tie_12 ?_
  refine lv_iconst (v := 1) hx hb dX1_tie_13 (by decide) ?_
  refine lv_iload_n hx hb dX1_tie_14 rfl (lv_at hl 2 rfl) ?_
  refine lv_ishl hx hb dX1_tie_15 ?_
  refine lv_pc (q := 16) rfl ?_
  refine lv_ior hx hb dX1_tie_16 ?_
  refine uIast (i := (nI x0)) (j := x0) (ws' := [(a_L, .inr (1, [.ref a_P, .ref a_N, .ref a_S, .ref a_L_near, .ref a_L_clear, .int v_L_found, .int v_L_supposed])), (a_L_near, .inl (K 0, 12, .inl (upd f_L_near x0 ((f_L_near x0) ||| (1 <<< ((nI x1) &&& 31)))))), (a_L_clear, .inl (K 0, 12, .inl f_L_clear))]) B hP hD hS 1 rfl (nI_in (by omega) (by omega)) (nI_clamp (by omega)) rfl dX1_tie_17 (fun H locs hP hD hS => ?_)
  refine lv_aload_n hx hb dX1_tie_18 rfl (lv_at hl 0 rfl) ?_
  refine uGet (ci := 1) (C := RX1) (T := TX1) (N := 7) (v := .ref a_L_near) B inlX1 hP 0 rfl rfl 3 rfl mfl_X1_9 rfl rfl dX1_tie_19 ?_
  refine lv_iload_n hx hb dX1_tie_22 rfl (lv_at hl 2 rfl) ?_
  refine lv_dup2_11 hx hb dX1_tie_23 rfl rfl ?_
  refine lv_pc (q := 24) rfl ?_
  refine uIald (i := (nI x1)) (j := x1) B hP 1 rfl (nI_in (by omega) (by omega)) (nI_clamp (by omega)) dX1_tie_24 ?_
  refine lv_iconst (v := 1) hx hb dX1_tie_25 (by decide) ?_
  refine lv_iload_n hx hb dX1_tie_26 rfl (lv_at hl 1 rfl) ?_
  refine lv_ishl hx hb dX1_tie_27 ?_
  refine lv_ior hx hb dX1_tie_28 ?_
  refine lv_topi (fun y4 ey4 => ?_)
  clear ey4
  refine uIast (i := (nI x1)) (j := x1) (ws' := [(a_L, .inr (1, [.ref a_P, .ref a_N, .ref a_S, .ref a_L_near, .ref a_L_clear, .int v_L_found, .int v_L_supposed])), (a_L_near, .inl (K 0, 12, .inl (upd (upd f_L_near x0 ((f_L_near x0) ||| (1 <<< ((nI x1) &&& 31)))) x1 y4))), (a_L_clear, .inl (K 0, 12, .inl f_L_clear))]) B hP hD hS 1 rfl (nI_in (by omega) (by omega)) (nI_clamp (by omega)) rfl dX1_tie_29 (fun H locs hP hD hS => ?_)
  generalize upd (upd f_L_near x0 ((f_L_near x0) ||| (1 <<< ((nI x1) &&& 31)))) x1 y4 = f5 at hP hD
  refine lv_pc (q := 30) rfl ?_
  refine lv_iload_n hx hb dX1_tie_30 rfl (lv_at hl 3 rfl) ?_
  refine lv_iconst (v := 2) hx hb dX1_tie_31 (by decide) ?_
  refine lv_icmp_ne (tgt := 59) hx hb dX1_tie_32 (by decide) (fun c6 => ?_) (fun c6 => ?_)
  · exact uRv (f5, f_L_clear) B trivial (uSub hP [0, 1, 2] rfl) (hD.sub [0, 1, 2] rfl rfl) hS dX1_tie_59
  refine lv_aload_n hx hb dX1_tie_35 rfl (lv_at hl 0 rfl) ?_
  refine uGet (ci := 1) (C := RX1) (T := TX1) (N := 7) (v := .ref a_L_clear) B inlX1 hP 0 rfl rfl 4 rfl mfl_X1_15 rfl rfl dX1_tie_36 ?_
  refine lv_iload_n hx hb dX1_tie_39 rfl (lv_at hl 1 rfl) ?_
  refine lv_pc (q := 40) rfl ?_
  refine lv_dup2_11 hx hb dX1_tie_40 rfl rfl ?_
  refine uIald (i := (nI x0)) (j := x0) B hP 2 rfl (nI_in (by omega) (by omega)) (nI_clamp (by omega)) dX1_tie_41 ?_
  refine lv_iconst (v := 1) hx hb dX1_tie_42 (by decide) ?_
  refine lv_iload_n hx hb dX1_tie_43 rfl (lv_at hl 2 rfl) ?_
  refine lv_ishl hx hb dX1_tie_44 ?_
  refine lv_ior hx hb dX1_tie_45 ?_
  refine lv_pc (q := 46) rfl ?_
  refine uIast (i := (nI x0)) (j := x0) (ws' := [(a_L, .inr (1, [.ref a_P, .ref a_N, .ref a_S, .ref a_L_near, .ref a_L_clear, .int v_L_found, .int v_L_supposed])), (a_L_near, .inl (K 0, 12, .inl f5)), (a_L_clear, .inl (K 0, 12, .inl (upd f_L_clear x0 ((f_L_clear x0) ||| (1 <<< ((nI x1) &&& 31))))))]) B hP hD hS 2 rfl (nI_in (by omega) (by omega)) (nI_clamp (by omega)) rfl dX1_tie_46 (fun H locs hP hD hS => ?_)
  generalize upd f_L_clear x0 ((f_L_clear x0) ||| (1 <<< ((nI x1) &&& 31))) = f7 at hP hD
  refine lv_aload_n hx hb dX1_tie_47 rfl (lv_at hl 0 rfl) ?_
  refine uGet (ci := 1) (C := RX1) (T := TX1) (N := 7) (v := .ref a_L_clear) B inlX1 hP 0 rfl rfl 4 rfl mfl_X1_15 rfl rfl dX1_tie_48 ?_
  refine lv_iload_n hx hb dX1_tie_51 rfl (lv_at hl 2 rfl) ?_
  refine lv_dup2_11 hx hb dX1_tie_52 rfl rfl ?_
  refine uIald (i := (nI x1)) (j := x1) B hP 2 rfl (nI_in (by omega) (by omega)) (nI_clamp (by omega)) dX1_tie_53 ?_
  refine lv_pc (q := 54) rfl ?_
  refine lv_iconst (v := 1) hx hb dX1_tie_54 (by decide) ?_
  refine lv_iload_n hx hb dX1_tie_55 rfl (lv_at hl 1 rfl) ?_
  refine lv_ishl hx hb dX1_tie_56 ?_
  refine lv_ior hx hb dX1_tie_57 ?_
  refine uIast (i := (nI x1)) (j := x1) (ws' := [(a_L, .inr (1, [.ref a_P, .ref a_N, .ref a_S, .ref a_L_near, .ref a_L_clear, .int v_L_found, .int v_L_supposed])), (a_L_near, .inl (K 0, 12, .inl f5)), (a_L_clear, .inl (K 0, 12, .inl (upd f7 x1 ((f7 x1) ||| (1 <<< ((nI x0) &&& 31))))))]) B hP hD hS 2 rfl (nI_in (by omega) (by omega)) (nI_clamp (by omega)) rfl dX1_tie_58 (fun H locs hP hD hS => ?_)
  exact uRv (f5, upd f7 x1 ((f7 x1) ||| (1 <<< ((nI x0) &&& 31)))) B trivial (uSub hP [0, 1, 2] rfl) (hD.sub [0, 1, 2] rfl rfl) hS dX1_tie_59
def qwJ7_fill_53178_vF12 (a_F12 : Nat) (f_F12 : Nat → Int32) (x1 : Int32) : ((Nat → Int32)) → Prop := (fun (u : (Nat → Int32)) => True)
def vwJ7_fill_53178_vF12 (K : Nat → ClassId) (a_F12 : Nat) (f_F12 : Nat → Int32) (x1 : Int32) : ((Nat → Int32)) → va_W := (fun (u : (Nat → Int32)) => [(a_F12, .inl (K 0, 12, .inl u))])
set_option maxHeartbeats 4000000 in
set_option maxRecDepth 100000 in
theorem wJ7_fill_53178_vF12 (l : Launch) (D : va_G) (K : Nat → ClassId) (sz : Nat) (a_F12 : Nat) (f_F12 : Nat → Int32) (x1 : Int32) : uMv l yJ7_fill_53178 cJ7_fill_53178 4 { frames := 0, cells := 0, slots := 0, locals := 0 } [.ref a_F12, .int x1] D K [(a_F12, .inl (K 0, 12, .inl f_F12))] sz (qwJ7_fill_53178_vF12 a_F12 f_F12 x1) (vwJ7_fill_53178_vF12 K a_F12 f_F12 x1) := by
  refine uMet (Qc := uQv D (qwJ7_fill_53178_vF12 a_F12 f_F12 x1) (vwJ7_fill_53178_vF12 K a_F12 f_F12 x1)) (ret := none) (by decide) (Nat.le_of_ble_eq_true rfl) ?_
  intro p e s m below meth c A ls hAe hsz B hP hD hS hl
  have hx := B.1
  have hb := B.2.1
  have hl : lv_has ls 4 [(0, .ref a_F12), (1, .int x1)] := hl
  refine lv_iconst (v := 0) hx hb dJ7_fill_53178_0 (by decide) ?_
  refine lv_istore_n (lv' := [(2, .int 0), (0, .ref a_F12), (1, .int x1)]) hx hb dJ7_fill_53178_1 rfl hl (by decide) rfl (fun ls hl => ?_)
  refine lv_aload_n hx hb dJ7_fill_53178_2 rfl (lv_at hl 1 rfl) ?_
  refine uAlen (t0 := 0) (v := 12) B hP 0 rfl rfl rfl dJ7_fill_53178_3 ?_
  refine lv_istore_n (lv' := [(3, .int 12), (2, .int 0), (0, .ref a_F12), (1, .int x1)]) hx hb dJ7_fill_53178_4 rfl hl (by decide) rfl (fun ls hl => ?_)
  have L4 : ∀ (n9 : Nat) (j1 : Nat) (f2 : Nat → Int32), (j1 ≤ 12) → 12 - j1 < n9 → ∀ (H : Heap) (locs : List Loc) (ls : Array Slot), va_P D vwCl [(a_F12, .inl (K 0, 12, .inl f2))] H → va_D A [(a_F12, .inl (K 0, 12, .inl f2))] → va_S A s.heap H locs → lv_has ls 4 [(3, .int 12), (2, .int (nI j1)), (0, .ref a_F12), (1, .int x1)] → W p l e { frames := 0, cells := 0, slots := 0, locals := 0 } s m ([.ref a_F12, .int x1] : List Value).toArray below meth c H locs 0 0 (MQ below (uQv D (qwJ7_fill_53178_vF12 a_F12 f_F12 x1) (vwJ7_fill_53178_vF12 K a_F12 f_F12 x1) A) ([.ref a_F12, .int x1] : List Value).toArray s 0 0 A) (F0 m 5 ls []) := by
    intro n9
    induction n9 with
    | zero => intros; exact absurd ‹_ < 0› (Nat.not_lt_zero _)
    | succ n5_ ih5 =>
      intro j1 f2 hj1 hm5 H locs ls hP hD hS hl
      refine lv_pc (q := 5) rfl ?_
      refine lv_iload_n hx hb dJ7_fill_53178_5 rfl (lv_at hl 1 rfl) ?_
      refine lv_iload_n hx hb dJ7_fill_53178_6 rfl (lv_at hl 0 rfl) ?_
      refine lv_icmp_ge (tgt := 20) hx hb dJ7_fill_53178_7 (by decide) (fun c5 => ?_) (fun c5 => ?_)
      · have k_5 : 12 ≤ j1 := (nI_leI (a := 12) (b := j1) (by omega) (by omega)).mp c5
        exact uRv f2 B trivial (uSub hP [0] rfl) (hD.sub [0] rfl rfl) hS dJ7_fill_53178_20
      have k_5 : ¬ 12 ≤ j1 := fun h9 => c5 ((nI_leI (a := 12) (b := j1) (by omega) (by omega)).mpr h9)
      refine lv_aload_n hx hb dJ7_fill_53178_10 rfl (lv_at hl 2 rfl) ?_
      refine lv_iload_n hx hb dJ7_fill_53178_11 rfl (lv_at hl 1 rfl) ?_
      refine lv_iload_n hx hb dJ7_fill_53178_12 rfl (lv_at hl 3 rfl) ?_
      refine lv_pc (q := 13) rfl ?_
      refine uIast (i := (nI j1)) (j := j1) (ws' := [(a_F12, .inl (K 0, 12, .inl (upd f2 j1 x1)))]) B hP hD hS 0 rfl (nI_in (by omega) (by omega)) (nI_clamp (by omega)) rfl dJ7_fill_53178_13 (fun H locs hP hD hS => ?_)
      refine lv_iinc (v := nI (j1 + 1)) (lv' := [(2, .int (nI (j1 + 1))), (3, .int 12), (0, .ref a_F12), (1, .int x1)]) hx hb dJ7_fill_53178_14 hl (k := 1) rfl (nI_1 _) (by decide) rfl (fun ls hl => ?_)
      refine lv_goto (tgt := 5) hx hb dJ7_fill_53178_17 (by decide) ?_
      refine lv_pc (q := 5) rfl ?_
      refine W.widen (k := 0) (n := 0) (Nat.le_of_ble_eq_true rfl) (Nat.le_of_ble_eq_true rfl) ?_
      exact ih5 (j1 + 1) (upd f2 j1 x1) (by omega) (by omega) _ _ _ (uSub hP [0] rfl) (hD.sub [0] rfl rfl) hS (lv_sub hl [1, 0, 2, 3] rfl)
  refine lv_pc (q := 5) rfl ?_
  refine W.widen (k := 0) (n := 0) (Nat.le_of_ble_eq_true rfl) (Nat.le_of_ble_eq_true rfl) ?_
  exact L4 ((12 - 0) + 1) 0 f_F12 (by omega) (Nat.lt_succ_self _) _ _ _ hP hD hS hl
def qwX1_draw (a_L : Nat) (v_L_found : Int32) (v_L_supposed : Int32) (a_T : Nat) (v_T_width : Nat) (v_T_height : Nat) (v_T_bending : Int32) (a_T_heights : Nat) (f_T_heights : Nat → Int32) (a_T_woods : Nat) (f_T_woods : Nat → Int32) (a_T_treesLow : Nat) (f_T_treesLow : Nat → Int32) (a_T_treesHigh : Nat) (f_T_treesHigh : Nat → Int32) (a_T_worst : Nat) (f_T_worst : Nat → Int32) (a_T_best : Nat) (f_T_best : Nat → Int32) (a_P : Nat) (v_P_size : Nat) (a_P_xs : Nat) (f_P_xs : Nat → Int32) (a_P_ys : Nat) (f_P_ys : Nat → Int32) (a_P_cells : Nat) (f_P_cells : Nat → Int32) (a_P_lows : Nat) (f_P_lows : Nat → Int32) (a_P_highs : Nat) (f_P_highs : Nat → Int32) (a_P_states : Nat) (f_P_states : Nat → Int32) (a_S : Nat) (a_N : Nat) (v_N_size : Nat) (v_N_drawnFor : Int32) (v_N_agree : Int32) (v_N_quietUpTo : Nat) (a_N_sorts : Nat) (f_N_sorts : Nat → Int32) (a_N_firsts : Nat) (f_N_firsts : Nat → Int32) (a_N_seconds : Nat) (f_N_seconds : Nat → Int32) (a_N_struck : Nat) (f_N_struck : Nat → Int32) (a_N_least : Nat) (f_N_least : Nat → Int32) (a_N_greatest : Nat) (f_N_greatest : Nat → Int32) (a_L_near : Nat) (f_L_near : Nat → Int32) (a_L_clear : Nat) (f_L_clear : Nat → Int32) (a_P_men : Nat) (a_P_stores : Nat) (x0 : Nat) (x1 : Nat) (x2 : Int32) (x3 : Int32) (x4 : Int32) : (Int32 × Int32 × Int32 × Int32 × (Nat → Int32) × (Nat → Int32) × (Nat → Int32) × (Nat → Int32) × (Nat → Int32)) → Prop := (fun (u : Int32 × Int32 × Int32 × Int32 × (Nat → Int32) × (Nat → Int32) × (Nat → Int32) × (Nat → Int32) × (Nat → Int32)) => (u.2.2.2.1 = 0 ∨ u.2.2.2.1 = 1) ∧ (∀ k, u.2.2.2.2.1 k = 0 ∨ u.2.2.2.2.1 k = 1))
def vwX1_draw (K : Nat → ClassId) (a_L : Nat) (v_L_found : Int32) (v_L_supposed : Int32) (a_T : Nat) (v_T_width : Nat) (v_T_height : Nat) (v_T_bending : Int32) (a_T_heights : Nat) (f_T_heights : Nat → Int32) (a_T_woods : Nat) (f_T_woods : Nat → Int32) (a_T_treesLow : Nat) (f_T_treesLow : Nat → Int32) (a_T_treesHigh : Nat) (f_T_treesHigh : Nat → Int32) (a_T_worst : Nat) (f_T_worst : Nat → Int32) (a_T_best : Nat) (f_T_best : Nat → Int32) (a_P : Nat) (v_P_size : Nat) (a_P_xs : Nat) (f_P_xs : Nat → Int32) (a_P_ys : Nat) (f_P_ys : Nat → Int32) (a_P_cells : Nat) (f_P_cells : Nat → Int32) (a_P_lows : Nat) (f_P_lows : Nat → Int32) (a_P_highs : Nat) (f_P_highs : Nat → Int32) (a_P_states : Nat) (f_P_states : Nat → Int32) (a_S : Nat) (a_N : Nat) (v_N_size : Nat) (v_N_drawnFor : Int32) (v_N_agree : Int32) (v_N_quietUpTo : Nat) (a_N_sorts : Nat) (f_N_sorts : Nat → Int32) (a_N_firsts : Nat) (f_N_firsts : Nat → Int32) (a_N_seconds : Nat) (f_N_seconds : Nat → Int32) (a_N_struck : Nat) (f_N_struck : Nat → Int32) (a_N_least : Nat) (f_N_least : Nat → Int32) (a_N_greatest : Nat) (f_N_greatest : Nat → Int32) (a_L_near : Nat) (f_L_near : Nat → Int32) (a_L_clear : Nat) (f_L_clear : Nat → Int32) (a_P_men : Nat) (a_P_stores : Nat) (x0 : Nat) (x1 : Nat) (x2 : Int32) (x3 : Int32) (x4 : Int32) : (Int32 × Int32 × Int32 × Int32 × (Nat → Int32) × (Nat → Int32) × (Nat → Int32) × (Nat → Int32) × (Nat → Int32)) → va_W := (fun (u : Int32 × Int32 × Int32 × Int32 × (Nat → Int32) × (Nat → Int32) × (Nat → Int32) × (Nat → Int32) × (Nat → Int32)) => [(a_L, .inr (1, [.ref a_P, .ref a_N, .ref a_S, .ref a_L_near, .ref a_L_clear, .int u.1, .int u.2.1])), (a_T, .inr (9, [.ref a_T_heights, .ref a_T_woods, .ref a_T_treesLow, .ref a_T_treesHigh, .ref a_T_worst, .ref a_T_best, .int (nI v_T_width), .int (nI v_T_height), .int v_T_bending])), (a_T_heights, .inl (K 0, 256, .inl f_T_heights)), (a_T_woods, .inl (K 0, 256, .inl f_T_woods)), (a_T_treesLow, .inl (K 0, 4, .inl f_T_treesLow)), (a_T_treesHigh, .inl (K 0, 4, .inl f_T_treesHigh)), (a_T_worst, .inl (K 0, 24, .inl f_T_worst)), (a_T_best, .inl (K 0, 24, .inl f_T_best)), (a_P, .inr (4, [.ref a_T, .ref a_P_xs, .ref a_P_ys, .ref a_P_cells, .ref a_P_lows, .ref a_P_highs, .ref a_P_states, .ref a_P_men, .ref a_P_stores, .int (nI v_P_size)])), (a_P_xs, .inl (K 0, 12, .inl f_P_xs)), (a_P_ys, .inl (K 0, 12, .inl f_P_ys)), (a_P_cells, .inl (K 0, 12, .inl f_P_cells)), (a_P_lows, .inl (K 0, 12, .inl f_P_lows)), (a_P_highs, .inl (K 0, 12, .inl f_P_highs)), (a_P_states, .inl (K 0, 12, .inl f_P_states)), (a_S, .inr (8, [.ref a_T, .ref a_P])), (a_N, .inr (3, [.ref a_N_sorts, .ref a_N_firsts, .ref a_N_seconds, .ref a_N_struck, .ref a_N_least, .ref a_N_greatest, .int (nI v_N_size), .int u.2.2.1, .int u.2.2.2.1, .int (nI v_N_quietUpTo)])), (a_N_sorts, .inl (K 0, 60, .inl f_N_sorts)), (a_N_firsts, .inl (K 0, 60, .inl f_N_firsts)), (a_N_seconds, .inl (K 0, 60, .inl f_N_seconds)), (a_N_struck, .inl (K 1, 60, .inl (u.2.2.2.2.1))), (a_N_least, .inl (K 0, 24, .inl (u.2.2.2.2.2.1))), (a_N_greatest, .inl (K 0, 24, .inl (u.2.2.2.2.2.2.1))), (a_L_near, .inl (K 0, 12, .inl (u.2.2.2.2.2.2.2.1))), (a_L_clear, .inl (K 0, 12, .inl (u.2.2.2.2.2.2.2.2)))])
set_option maxHeartbeats 4000000 in
set_option maxRecDepth 100000 in
theorem wX1_draw (l : Launch) (D : va_G) (K : Nat → ClassId) (sz : Nat) (a_L : Nat) (v_L_found : Int32) (v_L_supposed : Int32) (a_T : Nat) (v_T_width : Nat) (v_T_height : Nat) (v_T_bending : Int32) (a_T_heights : Nat) (f_T_heights : Nat → Int32) (a_T_woods : Nat) (f_T_woods : Nat → Int32) (a_T_treesLow : Nat) (f_T_treesLow : Nat → Int32) (a_T_treesHigh : Nat) (f_T_treesHigh : Nat → Int32) (a_T_worst : Nat) (f_T_worst : Nat → Int32) (a_T_best : Nat) (f_T_best : Nat → Int32) (a_P : Nat) (v_P_size : Nat) (a_P_xs : Nat) (f_P_xs : Nat → Int32) (a_P_ys : Nat) (f_P_ys : Nat → Int32) (a_P_cells : Nat) (f_P_cells : Nat → Int32) (a_P_lows : Nat) (f_P_lows : Nat → Int32) (a_P_highs : Nat) (f_P_highs : Nat → Int32) (a_P_states : Nat) (f_P_states : Nat → Int32) (a_S : Nat) (a_N : Nat) (v_N_size : Nat) (v_N_drawnFor : Int32) (v_N_agree : Int32) (v_N_quietUpTo : Nat) (a_N_sorts : Nat) (f_N_sorts : Nat → Int32) (a_N_firsts : Nat) (f_N_firsts : Nat → Int32) (a_N_seconds : Nat) (f_N_seconds : Nat → Int32) (a_N_struck : Nat) (f_N_struck : Nat → Int32) (a_N_least : Nat) (f_N_least : Nat → Int32) (a_N_greatest : Nat) (f_N_greatest : Nat → Int32) (a_L_near : Nat) (f_L_near : Nat → Int32) (a_L_clear : Nat) (f_L_clear : Nat → Int32) (a_P_men : Nat) (a_P_stores : Nat) (x0 : Nat) (x1 : Nat) (x2 : Int32) (x3 : Int32) (x4 : Int32) (hv_T_width : v_T_width ≤ 16) (gv_T_width : 4 ≤ v_T_width) (hv_T_height : v_T_height ≤ 16) (gv_T_height : 4 ≤ v_T_height) (r_T_woods : uRg f_T_woods 0 3) (hv_P_size : v_P_size ≤ 12) (r_P_xs : uRg f_P_xs 0 15) (r_P_ys : uRg f_P_ys 0 15) (r_P_cells : uRg f_P_cells 0 255) (hv_N_size : v_N_size ≤ 60) (hv_N_agree : v_N_agree = 0 ∨ v_N_agree = 1) (hv_N_quietUpTo : v_N_quietUpTo ≤ 60) (r_N_sorts : uRg f_N_sorts 0 6) (r_N_firsts : uRg f_N_firsts 0 59) (r_N_seconds : uRg f_N_seconds 0 500) (b_N_struck : ∀ k, f_N_struck k = 0 ∨ f_N_struck k = 1) (hx0 : x0 < 12) (hx1 : x1 < 2) (hx4 : x4 = 0 ∨ x4 = 1) (i_uNt : uNt f_N_sorts f_N_firsts f_N_seconds) : uMv l yX1_draw cX1_draw 9 { frames := 5, cells := 0, slots := 0, locals := 128 } [.ref a_L, .int (nI x0), .int (nI x1), .int x2, .int x3, .int x4] D K [(a_L, .inr (1, [.ref a_P, .ref a_N, .ref a_S, .ref a_L_near, .ref a_L_clear, .int v_L_found, .int v_L_supposed])), (a_T, .inr (9, [.ref a_T_heights, .ref a_T_woods, .ref a_T_treesLow, .ref a_T_treesHigh, .ref a_T_worst, .ref a_T_best, .int (nI v_T_width), .int (nI v_T_height), .int v_T_bending])), (a_T_heights, .inl (K 0, 256, .inl f_T_heights)), (a_T_woods, .inl (K 0, 256, .inl f_T_woods)), (a_T_treesLow, .inl (K 0, 4, .inl f_T_treesLow)), (a_T_treesHigh, .inl (K 0, 4, .inl f_T_treesHigh)), (a_T_worst, .inl (K 0, 24, .inl f_T_worst)), (a_T_best, .inl (K 0, 24, .inl f_T_best)), (a_P, .inr (4, [.ref a_T, .ref a_P_xs, .ref a_P_ys, .ref a_P_cells, .ref a_P_lows, .ref a_P_highs, .ref a_P_states, .ref a_P_men, .ref a_P_stores, .int (nI v_P_size)])), (a_P_xs, .inl (K 0, 12, .inl f_P_xs)), (a_P_ys, .inl (K 0, 12, .inl f_P_ys)), (a_P_cells, .inl (K 0, 12, .inl f_P_cells)), (a_P_lows, .inl (K 0, 12, .inl f_P_lows)), (a_P_highs, .inl (K 0, 12, .inl f_P_highs)), (a_P_states, .inl (K 0, 12, .inl f_P_states)), (a_S, .inr (8, [.ref a_T, .ref a_P])), (a_N, .inr (3, [.ref a_N_sorts, .ref a_N_firsts, .ref a_N_seconds, .ref a_N_struck, .ref a_N_least, .ref a_N_greatest, .int (nI v_N_size), .int v_N_drawnFor, .int v_N_agree, .int (nI v_N_quietUpTo)])), (a_N_sorts, .inl (K 0, 60, .inl f_N_sorts)), (a_N_firsts, .inl (K 0, 60, .inl f_N_firsts)), (a_N_seconds, .inl (K 0, 60, .inl f_N_seconds)), (a_N_struck, .inl (K 1, 60, .inl f_N_struck)), (a_N_least, .inl (K 0, 24, .inl f_N_least)), (a_N_greatest, .inl (K 0, 24, .inl f_N_greatest)), (a_L_near, .inl (K 0, 12, .inl f_L_near)), (a_L_clear, .inl (K 0, 12, .inl f_L_clear))] sz (qwX1_draw a_L v_L_found v_L_supposed a_T v_T_width v_T_height v_T_bending a_T_heights f_T_heights a_T_woods f_T_woods a_T_treesLow f_T_treesLow a_T_treesHigh f_T_treesHigh a_T_worst f_T_worst a_T_best f_T_best a_P v_P_size a_P_xs f_P_xs a_P_ys f_P_ys a_P_cells f_P_cells a_P_lows f_P_lows a_P_highs f_P_highs a_P_states f_P_states a_S a_N v_N_size v_N_drawnFor v_N_agree v_N_quietUpTo a_N_sorts f_N_sorts a_N_firsts f_N_firsts a_N_seconds f_N_seconds a_N_struck f_N_struck a_N_least f_N_least a_N_greatest f_N_greatest a_L_near f_L_near a_L_clear f_L_clear a_P_men a_P_stores x0 x1 x2 x3 x4) (vwX1_draw K a_L v_L_found v_L_supposed a_T v_T_width v_T_height v_T_bending a_T_heights f_T_heights a_T_woods f_T_woods a_T_treesLow f_T_treesLow a_T_treesHigh f_T_treesHigh a_T_worst f_T_worst a_T_best f_T_best a_P v_P_size a_P_xs f_P_xs a_P_ys f_P_ys a_P_cells f_P_cells a_P_lows f_P_lows a_P_highs f_P_highs a_P_states f_P_states a_S a_N v_N_size v_N_drawnFor v_N_agree v_N_quietUpTo a_N_sorts f_N_sorts a_N_firsts f_N_firsts a_N_seconds f_N_seconds a_N_struck f_N_struck a_N_least f_N_least a_N_greatest f_N_greatest a_L_near f_L_near a_L_clear f_L_clear a_P_men a_P_stores x0 x1 x2 x3 x4) := by
  refine uMet (Qc := uQv D (qwX1_draw a_L v_L_found v_L_supposed a_T v_T_width v_T_height v_T_bending a_T_heights f_T_heights a_T_woods f_T_woods a_T_treesLow f_T_treesLow a_T_treesHigh f_T_treesHigh a_T_worst f_T_worst a_T_best f_T_best a_P v_P_size a_P_xs f_P_xs a_P_ys f_P_ys a_P_cells f_P_cells a_P_lows f_P_lows a_P_highs f_P_highs a_P_states f_P_states a_S a_N v_N_size v_N_drawnFor v_N_agree v_N_quietUpTo a_N_sorts f_N_sorts a_N_firsts f_N_firsts a_N_seconds f_N_seconds a_N_struck f_N_struck a_N_least f_N_least a_N_greatest f_N_greatest a_L_near f_L_near a_L_clear f_L_clear a_P_men a_P_stores x0 x1 x2 x3 x4) (vwX1_draw K a_L v_L_found v_L_supposed a_T v_T_width v_T_height v_T_bending a_T_heights f_T_heights a_T_woods f_T_woods a_T_treesLow f_T_treesLow a_T_treesHigh f_T_treesHigh a_T_worst f_T_worst a_T_best f_T_best a_P v_P_size a_P_xs f_P_xs a_P_ys f_P_ys a_P_cells f_P_cells a_P_lows f_P_lows a_P_highs f_P_highs a_P_states f_P_states a_S a_N v_N_size v_N_drawnFor v_N_agree v_N_quietUpTo a_N_sorts f_N_sorts a_N_firsts f_N_firsts a_N_seconds f_N_seconds a_N_struck f_N_struck a_N_least f_N_least a_N_greatest f_N_greatest a_L_near f_L_near a_L_clear f_L_clear a_P_men a_P_stores x0 x1 x2 x3 x4)) (ret := none) (by decide) (Nat.le_of_ble_eq_true rfl) ?_
  intro p e s m below meth c A ls hAe hsz B hP hD hS hl
  have hx := B.1
  have hb := B.2.1
  have hl : lv_has ls 9 [(0, .ref a_L), (1, .int (nI x0)), (2, .int (nI x1)), (3, .int x2), (4, .int x3), (5, .int x4)] := hl
  refine lv_aload_n hx hb dX1_draw_0 rfl (lv_at hl 0 rfl) ?_
  refine uGet (ci := 1) (C := RX1) (T := TX1) (N := 7) (v := .ref a_N) B inlX1 hP 0 rfl rfl 1 rfl mfl_X1_29 rfl rfl dX1_draw_1 ?_
  refine lv_aload_n hx hb dX1_draw_4 rfl (lv_at hl 0 rfl) ?_
  refine uGet (ci := 1) (C := RX1) (T := TX1) (N := 7) (v := .ref a_N) B inlX1 hP 0 rfl rfl 1 rfl mfl_X1_29 rfl rfl dX1_draw_5 ?_
  refine uGet (ci := 3) (C := RX3) (T := TX3) (N := 10) (v := .int (nI v_N_size)) B inlX3 hP 16 rfl rfl 6 rfl mfl_X1_37 rfl rfl dX1_draw_8 ?_
  refine lv_pc (q := 11) rfl ?_
  refine uVi (As := [.int (nI v_N_size)]) (rest := []) (wr := [(a_L, .inr (1, [.ref a_P, .ref a_N, .ref a_S, .ref a_L_near, .ref a_L_clear, .int v_L_found, .int v_L_supposed])), (a_T, .inr (9, [.ref a_T_heights, .ref a_T_woods, .ref a_T_treesLow, .ref a_T_treesHigh, .ref a_T_worst, .ref a_T_best, .int (nI v_T_width), .int (nI v_T_height), .int v_T_bending])), (a_T_heights, .inl (K 0, 256, .inl f_T_heights)), (a_T_woods, .inl (K 0, 256, .inl f_T_woods)), (a_T_treesLow, .inl (K 0, 4, .inl f_T_treesLow)), (a_T_treesHigh, .inl (K 0, 4, .inl f_T_treesHigh)), (a_T_worst, .inl (K 0, 24, .inl f_T_worst)), (a_T_best, .inl (K 0, 24, .inl f_T_best)), (a_P, .inr (4, [.ref a_T, .ref a_P_xs, .ref a_P_ys, .ref a_P_cells, .ref a_P_lows, .ref a_P_highs, .ref a_P_states, .ref a_P_men, .ref a_P_stores, .int (nI v_P_size)])), (a_P_xs, .inl (K 0, 12, .inl f_P_xs)), (a_P_ys, .inl (K 0, 12, .inl f_P_ys)), (a_P_cells, .inl (K 0, 12, .inl f_P_cells)), (a_P_lows, .inl (K 0, 12, .inl f_P_lows)), (a_P_highs, .inl (K 0, 12, .inl f_P_highs)), (a_P_states, .inl (K 0, 12, .inl f_P_states)), (a_S, .inr (8, [.ref a_T, .ref a_P])), (a_L_near, .inl (K 0, 12, .inl f_L_near)), (a_L_clear, .inl (K 0, 12, .inl f_L_clear))]) [(a_N, .inr (3, [.ref a_N_sorts, .ref a_N_firsts, .ref a_N_seconds, .ref a_N_struck, .ref a_N_least, .ref a_N_greatest, .int (nI v_N_size), .int v_N_drawnFor, .int v_N_agree, .int (nI v_N_quietUpTo)])), (a_N_sorts, .inl (K 0, 60, .inl f_N_sorts)), (a_N_firsts, .inl (K 0, 60, .inl f_N_firsts)), (a_N_seconds, .inl (K 0, 60, .inl f_N_seconds)), (a_N_struck, .inl (K 1, 60, .inl f_N_struck)), (a_N_least, .inl (K 0, 24, .inl f_N_least)), (a_N_greatest, .inl (K 0, 24, .inl f_N_greatest))] B hl.1 hP hD hS [16, 17, 18, 19, 20, 21, 22] [0, 1, 2, 3, 4, 5, 6, 7, 8, 9, 10, 11, 12, 13, 14, 15, 23, 24] rfl rfl rfl (wX3_draw l D K _ a_N v_N_size v_N_drawnFor v_N_agree v_N_quietUpTo a_N_sorts f_N_sorts a_N_firsts f_N_firsts a_N_seconds f_N_seconds a_N_struck f_N_struck a_N_least f_N_least a_N_greatest f_N_greatest v_N_size (by omega) hv_N_agree (by omega) r_N_sorts r_N_firsts r_N_seconds b_N_struck (by omega) i_uNt) wd_X3_draw mml_X1_42 rfl rfl rfl rfl ⟨Nat.le_of_ble_eq_true rfl, Nat.le_of_ble_eq_true rfl⟩ (Nat.le_of_ble_eq_true rfl) ⟨Nat.le_of_ble_eq_true rfl, Nat.le_of_ble_eq_true rfl⟩ dX1_draw_11 (fun r1 u H locs hw hP hD hS => ?_)
  obtain ⟨u2, u3, u4, u5, u6⟩ := u
  try dsimp only at hw
  obtain ⟨w9, w7, w8⟩ := hw
  have hP : va_P D vwCl [(a_L, .inr (1, [.ref a_P, .ref a_N, .ref a_S, .ref a_L_near, .ref a_L_clear, .int v_L_found, .int v_L_supposed])), (a_T, .inr (9, [.ref a_T_heights, .ref a_T_woods, .ref a_T_treesLow, .ref a_T_treesHigh, .ref a_T_worst, .ref a_T_best, .int (nI v_T_width), .int (nI v_T_height), .int v_T_bending])), (a_T_heights, .inl (K 0, 256, .inl f_T_heights)), (a_T_woods, .inl (K 0, 256, .inl f_T_woods)), (a_T_treesLow, .inl (K 0, 4, .inl f_T_treesLow)), (a_T_treesHigh, .inl (K 0, 4, .inl f_T_treesHigh)), (a_T_worst, .inl (K 0, 24, .inl f_T_worst)), (a_T_best, .inl (K 0, 24, .inl f_T_best)), (a_P, .inr (4, [.ref a_T, .ref a_P_xs, .ref a_P_ys, .ref a_P_cells, .ref a_P_lows, .ref a_P_highs, .ref a_P_states, .ref a_P_men, .ref a_P_stores, .int (nI v_P_size)])), (a_P_xs, .inl (K 0, 12, .inl f_P_xs)), (a_P_ys, .inl (K 0, 12, .inl f_P_ys)), (a_P_cells, .inl (K 0, 12, .inl f_P_cells)), (a_P_lows, .inl (K 0, 12, .inl f_P_lows)), (a_P_highs, .inl (K 0, 12, .inl f_P_highs)), (a_P_states, .inl (K 0, 12, .inl f_P_states)), (a_S, .inr (8, [.ref a_T, .ref a_P])), (a_L_near, .inl (K 0, 12, .inl f_L_near)), (a_L_clear, .inl (K 0, 12, .inl f_L_clear)), (a_N, .inr (3, [.ref a_N_sorts, .ref a_N_firsts, .ref a_N_seconds, .ref a_N_struck, .ref a_N_least, .ref a_N_greatest, .int (nI v_N_size), .int u2, .int u3, .int (nI v_N_quietUpTo)])), (a_N_sorts, .inl (K 0, 60, .inl f_N_sorts)), (a_N_firsts, .inl (K 0, 60, .inl f_N_firsts)), (a_N_seconds, .inl (K 0, 60, .inl f_N_seconds)), (a_N_struck, .inl (K 1, 60, .inl u4)), (a_N_least, .inl (K 0, 24, .inl u5)), (a_N_greatest, .inl (K 0, 24, .inl u6))] H := hP
  have hD := uDPJ hP hD
  refine lv_pop hx hb dX1_draw_14 rfl ?_
  refine lv_aload_n hx hb dX1_draw_15 rfl (lv_at hl 0 rfl) ?_
  refine lv_aload_n hx hb dX1_draw_16 rfl (lv_at hl 0 rfl) ?_
  refine lv_iconst (v := 0) hx hb dX1_draw_17 (by decide) ?_
  refine lv_iload_n hx hb dX1_draw_18 rfl (lv_at hl 3 rfl) ?_
  refine lv_pc (q := 19) rfl ?_
  refine lv_iload hx hb dX1_draw_19 (lv_at hl 4 rfl) ?_
  refine uVi (As := [.int 0, .int x2, .int x3]) (rest := [.ref a_L]) (wr := [(a_T, .inr (9, [.ref a_T_heights, .ref a_T_woods, .ref a_T_treesLow, .ref a_T_treesHigh, .ref a_T_worst, .ref a_T_best, .int (nI v_T_width), .int (nI v_T_height), .int v_T_bending])), (a_T_heights, .inl (K 0, 256, .inl f_T_heights)), (a_T_woods, .inl (K 0, 256, .inl f_T_woods)), (a_T_treesLow, .inl (K 0, 4, .inl f_T_treesLow)), (a_T_treesHigh, .inl (K 0, 4, .inl f_T_treesHigh)), (a_T_worst, .inl (K 0, 24, .inl f_T_worst)), (a_T_best, .inl (K 0, 24, .inl f_T_best)), (a_P_xs, .inl (K 0, 12, .inl f_P_xs)), (a_P_ys, .inl (K 0, 12, .inl f_P_ys)), (a_P_cells, .inl (K 0, 12, .inl f_P_cells)), (a_P_lows, .inl (K 0, 12, .inl f_P_lows)), (a_P_highs, .inl (K 0, 12, .inl f_P_highs)), (a_S, .inr (8, [.ref a_T, .ref a_P])), (a_L_near, .inl (K 0, 12, .inl f_L_near)), (a_L_clear, .inl (K 0, 12, .inl f_L_clear)), (a_N_sorts, .inl (K 0, 60, .inl f_N_sorts)), (a_N_firsts, .inl (K 0, 60, .inl f_N_firsts)), (a_N_seconds, .inl (K 0, 60, .inl f_N_seconds)), (a_N_struck, .inl (K 1, 60, .inl u4))]) [(a_L, .inr (1, [.ref a_P, .ref a_N, .ref a_S, .ref a_L_near, .ref a_L_clear, .int v_L_found, .int v_L_supposed])), (a_P, .inr (4, [.ref a_T, .ref a_P_xs, .ref a_P_ys, .ref a_P_cells, .ref a_P_lows, .ref a_P_highs, .ref a_P_states, .ref a_P_men, .ref a_P_stores, .int (nI v_P_size)])), (a_P_states, .inl (K 0, 12, .inl f_P_states)), (a_N, .inr (3, [.ref a_N_sorts, .ref a_N_firsts, .ref a_N_seconds, .ref a_N_struck, .ref a_N_least, .ref a_N_greatest, .int (nI v_N_size), .int u2, .int u3, .int (nI v_N_quietUpTo)])), (a_N_least, .inl (K 0, 24, .inl u5)), (a_N_greatest, .inl (K 0, 24, .inl u6))] B hl.1 hP hD hS [0, 8, 14, 18, 23, 24] [1, 2, 3, 4, 5, 6, 7, 9, 10, 11, 12, 13, 15, 16, 17, 19, 20, 21, 22] rfl rfl rfl (wX1_standingAs l D K _ a_L v_L_found v_L_supposed a_P v_P_size a_P_states f_P_states a_N v_N_size u2 u3 v_N_quietUpTo a_N_least u5 a_N_greatest u6 a_S a_L_near a_L_clear a_T a_P_xs a_P_ys a_P_cells a_P_lows a_P_highs a_P_men a_P_stores a_N_sorts a_N_firsts a_N_seconds a_N_struck 0 x2 x3 (by omega) (by omega) w7 (by omega)) wd_X1_standingAs mml_X1_46 rfl rfl rfl rfl ⟨Nat.le_of_ble_eq_true rfl, Nat.le_of_ble_eq_true rfl⟩ (Nat.le_of_ble_eq_true rfl) ⟨Nat.le_of_ble_eq_true rfl, Nat.le_of_ble_eq_true rfl⟩ dX1_draw_21 (fun r10 u H locs hw hP hD hS => ?_)
  try dsimp only at hw
  have hP : va_P D vwCl [(a_T, .inr (9, [.ref a_T_heights, .ref a_T_woods, .ref a_T_treesLow, .ref a_T_treesHigh, .ref a_T_worst, .ref a_T_best, .int (nI v_T_width), .int (nI v_T_height), .int v_T_bending])), (a_T_heights, .inl (K 0, 256, .inl f_T_heights)), (a_T_woods, .inl (K 0, 256, .inl f_T_woods)), (a_T_treesLow, .inl (K 0, 4, .inl f_T_treesLow)), (a_T_treesHigh, .inl (K 0, 4, .inl f_T_treesHigh)), (a_T_worst, .inl (K 0, 24, .inl f_T_worst)), (a_T_best, .inl (K 0, 24, .inl f_T_best)), (a_P_xs, .inl (K 0, 12, .inl f_P_xs)), (a_P_ys, .inl (K 0, 12, .inl f_P_ys)), (a_P_cells, .inl (K 0, 12, .inl f_P_cells)), (a_P_lows, .inl (K 0, 12, .inl f_P_lows)), (a_P_highs, .inl (K 0, 12, .inl f_P_highs)), (a_S, .inr (8, [.ref a_T, .ref a_P])), (a_L_near, .inl (K 0, 12, .inl f_L_near)), (a_L_clear, .inl (K 0, 12, .inl f_L_clear)), (a_N_sorts, .inl (K 0, 60, .inl f_N_sorts)), (a_N_firsts, .inl (K 0, 60, .inl f_N_firsts)), (a_N_seconds, .inl (K 0, 60, .inl f_N_seconds)), (a_N_struck, .inl (K 1, 60, .inl u4)), (a_L, .inr (1, [.ref a_P, .ref a_N, .ref a_S, .ref a_L_near, .ref a_L_clear, .int v_L_found, .int v_L_supposed])), (a_P, .inr (4, [.ref a_T, .ref a_P_xs, .ref a_P_ys, .ref a_P_cells, .ref a_P_lows, .ref a_P_highs, .ref a_P_states, .ref a_P_men, .ref a_P_stores, .int (nI v_P_size)])), (a_P_states, .inl (K 0, 12, .inl f_P_states)), (a_N, .inr (3, [.ref a_N_sorts, .ref a_N_firsts, .ref a_N_seconds, .ref a_N_struck, .ref a_N_least, .ref a_N_greatest, .int (nI v_N_size), .int u2, .int u3, .int (nI v_N_quietUpTo)])), (a_N_least, .inl (K 0, 24, .inl u5)), (a_N_greatest, .inl (K 0, 24, .inl u6))] H := hP
  have hD := uDPJ hP hD
  refine uPut (ci := 1) (C := RX1) (T := TX1) (N := 7) (ws' := [(a_T, .inr (9, [.ref a_T_heights, .ref a_T_woods, .ref a_T_treesLow, .ref a_T_treesHigh, .ref a_T_worst, .ref a_T_best, .int (nI v_T_width), .int (nI v_T_height), .int v_T_bending])), (a_T_heights, .inl (K 0, 256, .inl f_T_heights)), (a_T_woods, .inl (K 0, 256, .inl f_T_woods)), (a_T_treesLow, .inl (K 0, 4, .inl f_T_treesLow)), (a_T_treesHigh, .inl (K 0, 4, .inl f_T_treesHigh)), (a_T_worst, .inl (K 0, 24, .inl f_T_worst)), (a_T_best, .inl (K 0, 24, .inl f_T_best)), (a_P_xs, .inl (K 0, 12, .inl f_P_xs)), (a_P_ys, .inl (K 0, 12, .inl f_P_ys)), (a_P_cells, .inl (K 0, 12, .inl f_P_cells)), (a_P_lows, .inl (K 0, 12, .inl f_P_lows)), (a_P_highs, .inl (K 0, 12, .inl f_P_highs)), (a_S, .inr (8, [.ref a_T, .ref a_P])), (a_L_near, .inl (K 0, 12, .inl f_L_near)), (a_L_clear, .inl (K 0, 12, .inl f_L_clear)), (a_N_sorts, .inl (K 0, 60, .inl f_N_sorts)), (a_N_firsts, .inl (K 0, 60, .inl f_N_firsts)), (a_N_seconds, .inl (K 0, 60, .inl f_N_seconds)), (a_N_struck, .inl (K 1, 60, .inl u4)), (a_L, .inr (1, [.ref a_P, .ref a_N, .ref a_S, .ref a_L_near, .ref a_L_clear, .int r10, .int v_L_supposed])), (a_P, .inr (4, [.ref a_T, .ref a_P_xs, .ref a_P_ys, .ref a_P_cells, .ref a_P_lows, .ref a_P_highs, .ref a_P_states, .ref a_P_men, .ref a_P_stores, .int (nI v_P_size)])), (a_P_states, .inl (K 0, 12, .inl f_P_states)), (a_N, .inr (3, [.ref a_N_sorts, .ref a_N_firsts, .ref a_N_seconds, .ref a_N_struck, .ref a_N_least, .ref a_N_greatest, .int (nI v_N_size), .int u2, .int u3, .int (nI v_N_quietUpTo)])), (a_N_least, .inl (K 0, 24, .inl u5)), (a_N_greatest, .inl (K 0, 24, .inl u6))]) B inlX1 tyX1_ok nmX1 hP hD hS 19 rfl rfl 5 rfl mfl_X1_18 rfl rfl rfl rfl rfl rfl dX1_draw_24 (fun H locs hP hD hS => ?_)
  refine lv_aload_n hx hb dX1_draw_27 rfl (lv_at hl 0 rfl) ?_
  refine lv_iload hx hb dX1_draw_28 (lv_at hl 5 rfl) ?_
  refine lv_if_eq (tgt := 44) hx hb dX1_draw_30 (by decide) (fun c11 => ?_) (fun c11 => ?_)
  · refine lv_pc (q := 44) rfl ?_
    refine lv_iconst (v := 0) hx hb dX1_draw_44 (by decide) ?_
    refine uPut (ci := 1) (C := RX1) (T := TX1) (N := 7) (ws' := [(a_T, .inr (9, [.ref a_T_heights, .ref a_T_woods, .ref a_T_treesLow, .ref a_T_treesHigh, .ref a_T_worst, .ref a_T_best, .int (nI v_T_width), .int (nI v_T_height), .int v_T_bending])), (a_T_heights, .inl (K 0, 256, .inl f_T_heights)), (a_T_woods, .inl (K 0, 256, .inl f_T_woods)), (a_T_treesLow, .inl (K 0, 4, .inl f_T_treesLow)), (a_T_treesHigh, .inl (K 0, 4, .inl f_T_treesHigh)), (a_T_worst, .inl (K 0, 24, .inl f_T_worst)), (a_T_best, .inl (K 0, 24, .inl f_T_best)), (a_P_xs, .inl (K 0, 12, .inl f_P_xs)), (a_P_ys, .inl (K 0, 12, .inl f_P_ys)), (a_P_cells, .inl (K 0, 12, .inl f_P_cells)), (a_P_lows, .inl (K 0, 12, .inl f_P_lows)), (a_P_highs, .inl (K 0, 12, .inl f_P_highs)), (a_S, .inr (8, [.ref a_T, .ref a_P])), (a_L_near, .inl (K 0, 12, .inl f_L_near)), (a_L_clear, .inl (K 0, 12, .inl f_L_clear)), (a_N_sorts, .inl (K 0, 60, .inl f_N_sorts)), (a_N_firsts, .inl (K 0, 60, .inl f_N_firsts)), (a_N_seconds, .inl (K 0, 60, .inl f_N_seconds)), (a_N_struck, .inl (K 1, 60, .inl u4)), (a_L, .inr (1, [.ref a_P, .ref a_N, .ref a_S, .ref a_L_near, .ref a_L_clear, .int r10, .int 0])), (a_P, .inr (4, [.ref a_T, .ref a_P_xs, .ref a_P_ys, .ref a_P_cells, .ref a_P_lows, .ref a_P_highs, .ref a_P_states, .ref a_P_men, .ref a_P_stores, .int (nI v_P_size)])), (a_P_states, .inl (K 0, 12, .inl f_P_states)), (a_N, .inr (3, [.ref a_N_sorts, .ref a_N_firsts, .ref a_N_seconds, .ref a_N_struck, .ref a_N_least, .ref a_N_greatest, .int (nI v_N_size), .int u2, .int u3, .int (nI v_N_quietUpTo)])), (a_N_least, .inl (K 0, 24, .inl u5)), (a_N_greatest, .inl (K 0, 24, .inl u6))]) B inlX1 tyX1_ok nmX1 hP hD hS 19 rfl rfl 6 rfl mfl_X1_22 rfl rfl rfl rfl rfl rfl dX1_draw_45 (fun H locs hP hD hS => ?_)
    refine lv_aload_n hx hb dX1_draw_48 rfl (lv_at hl 0 rfl) ?_
    refine uGet (ci := 1) (C := RX1) (T := TX1) (N := 7) (v := .ref a_L_near) B inlX1 hP 19 rfl rfl 3 rfl mfl_X1_9 rfl rfl dX1_draw_49 ?_
    refine lv_iconst (v := 0) hx hb dX1_draw_52 (by decide) ?_
    refine uSv (As := [.ref a_L_near, .int 0]) (rest := []) (wr := [(a_T, .inr (9, [.ref a_T_heights, .ref a_T_woods, .ref a_T_treesLow, .ref a_T_treesHigh, .ref a_T_worst, .ref a_T_best, .int (nI v_T_width), .int (nI v_T_height), .int v_T_bending])), (a_T_heights, .inl (K 0, 256, .inl f_T_heights)), (a_T_woods, .inl (K 0, 256, .inl f_T_woods)), (a_T_treesLow, .inl (K 0, 4, .inl f_T_treesLow)), (a_T_treesHigh, .inl (K 0, 4, .inl f_T_treesHigh)), (a_T_worst, .inl (K 0, 24, .inl f_T_worst)), (a_T_best, .inl (K 0, 24, .inl f_T_best)), (a_P_xs, .inl (K 0, 12, .inl f_P_xs)), (a_P_ys, .inl (K 0, 12, .inl f_P_ys)), (a_P_cells, .inl (K 0, 12, .inl f_P_cells)), (a_P_lows, .inl (K 0, 12, .inl f_P_lows)), (a_P_highs, .inl (K 0, 12, .inl f_P_highs)), (a_S, .inr (8, [.ref a_T, .ref a_P])), (a_L_clear, .inl (K 0, 12, .inl f_L_clear)), (a_N_sorts, .inl (K 0, 60, .inl f_N_sorts)), (a_N_firsts, .inl (K 0, 60, .inl f_N_firsts)), (a_N_seconds, .inl (K 0, 60, .inl f_N_seconds)), (a_N_struck, .inl (K 1, 60, .inl u4)), (a_L, .inr (1, [.ref a_P, .ref a_N, .ref a_S, .ref a_L_near, .ref a_L_clear, .int r10, .int 0])), (a_P, .inr (4, [.ref a_T, .ref a_P_xs, .ref a_P_ys, .ref a_P_cells, .ref a_P_lows, .ref a_P_highs, .ref a_P_states, .ref a_P_men, .ref a_P_stores, .int (nI v_P_size)])), (a_P_states, .inl (K 0, 12, .inl f_P_states)), (a_N, .inr (3, [.ref a_N_sorts, .ref a_N_firsts, .ref a_N_seconds, .ref a_N_struck, .ref a_N_least, .ref a_N_greatest, .int (nI v_N_size), .int u2, .int u3, .int (nI v_N_quietUpTo)])), (a_N_least, .inl (K 0, 24, .inl u5)), (a_N_greatest, .inl (K 0, 24, .inl u6))]) [(a_L_near, .inl (K 0, 12, .inl f_L_near))] B hl.1 hP hD hS [13] [0, 1, 2, 3, 4, 5, 6, 7, 8, 9, 10, 11, 12, 14, 15, 16, 17, 18, 19, 20, 21, 22, 23, 24] rfl rfl rfl (wJ7_fill_53178_vF12 l D K _ a_L_near f_L_near 0) wd_J7_fill_53178 mml_X1_50 rfl rfl ⟨Nat.le_of_ble_eq_true rfl, Nat.le_of_ble_eq_true rfl⟩ (Nat.le_of_ble_eq_true rfl) ⟨Nat.le_of_ble_eq_true rfl, Nat.le_of_ble_eq_true rfl⟩ dX1_draw_53 (fun u H locs hw hP hD hS => ?_)
    obtain ⟨u13, e9⟩ : ∃ y, y = u := ⟨_, rfl⟩
    subst e9
    try dsimp only at hw
    have hP : va_P D vwCl [(a_T, .inr (9, [.ref a_T_heights, .ref a_T_woods, .ref a_T_treesLow, .ref a_T_treesHigh, .ref a_T_worst, .ref a_T_best, .int (nI v_T_width), .int (nI v_T_height), .int v_T_bending])), (a_T_heights, .inl (K 0, 256, .inl f_T_heights)), (a_T_woods, .inl (K 0, 256, .inl f_T_woods)), (a_T_treesLow, .inl (K 0, 4, .inl f_T_treesLow)), (a_T_treesHigh, .inl (K 0, 4, .inl f_T_treesHigh)), (a_T_worst, .inl (K 0, 24, .inl f_T_worst)), (a_T_best, .inl (K 0, 24, .inl f_T_best)), (a_P_xs, .inl (K 0, 12, .inl f_P_xs)), (a_P_ys, .inl (K 0, 12, .inl f_P_ys)), (a_P_cells, .inl (K 0, 12, .inl f_P_cells)), (a_P_lows, .inl (K 0, 12, .inl f_P_lows)), (a_P_highs, .inl (K 0, 12, .inl f_P_highs)), (a_S, .inr (8, [.ref a_T, .ref a_P])), (a_L_clear, .inl (K 0, 12, .inl f_L_clear)), (a_N_sorts, .inl (K 0, 60, .inl f_N_sorts)), (a_N_firsts, .inl (K 0, 60, .inl f_N_firsts)), (a_N_seconds, .inl (K 0, 60, .inl f_N_seconds)), (a_N_struck, .inl (K 1, 60, .inl u4)), (a_L, .inr (1, [.ref a_P, .ref a_N, .ref a_S, .ref a_L_near, .ref a_L_clear, .int r10, .int 0])), (a_P, .inr (4, [.ref a_T, .ref a_P_xs, .ref a_P_ys, .ref a_P_cells, .ref a_P_lows, .ref a_P_highs, .ref a_P_states, .ref a_P_men, .ref a_P_stores, .int (nI v_P_size)])), (a_P_states, .inl (K 0, 12, .inl f_P_states)), (a_N, .inr (3, [.ref a_N_sorts, .ref a_N_firsts, .ref a_N_seconds, .ref a_N_struck, .ref a_N_least, .ref a_N_greatest, .int (nI v_N_size), .int u2, .int u3, .int (nI v_N_quietUpTo)])), (a_N_least, .inl (K 0, 24, .inl u5)), (a_N_greatest, .inl (K 0, 24, .inl u6)), (a_L_near, .inl (K 0, 12, .inl u13))] H := hP
    have hD := uDPJ hP hD
    refine lv_pc (q := 56) rfl ?_
    refine lv_aload_n hx hb dX1_draw_56 rfl (lv_at hl 0 rfl) ?_
    refine uGet (ci := 1) (C := RX1) (T := TX1) (N := 7) (v := .ref a_L_clear) B inlX1 hP 18 rfl rfl 4 rfl mfl_X1_15 rfl rfl dX1_draw_57 ?_
    refine lv_iconst (v := 0) hx hb dX1_draw_60 (by decide) ?_
    refine uSv (As := [.ref a_L_clear, .int 0]) (rest := []) (wr := [(a_T, .inr (9, [.ref a_T_heights, .ref a_T_woods, .ref a_T_treesLow, .ref a_T_treesHigh, .ref a_T_worst, .ref a_T_best, .int (nI v_T_width), .int (nI v_T_height), .int v_T_bending])), (a_T_heights, .inl (K 0, 256, .inl f_T_heights)), (a_T_woods, .inl (K 0, 256, .inl f_T_woods)), (a_T_treesLow, .inl (K 0, 4, .inl f_T_treesLow)), (a_T_treesHigh, .inl (K 0, 4, .inl f_T_treesHigh)), (a_T_worst, .inl (K 0, 24, .inl f_T_worst)), (a_T_best, .inl (K 0, 24, .inl f_T_best)), (a_P_xs, .inl (K 0, 12, .inl f_P_xs)), (a_P_ys, .inl (K 0, 12, .inl f_P_ys)), (a_P_cells, .inl (K 0, 12, .inl f_P_cells)), (a_P_lows, .inl (K 0, 12, .inl f_P_lows)), (a_P_highs, .inl (K 0, 12, .inl f_P_highs)), (a_S, .inr (8, [.ref a_T, .ref a_P])), (a_N_sorts, .inl (K 0, 60, .inl f_N_sorts)), (a_N_firsts, .inl (K 0, 60, .inl f_N_firsts)), (a_N_seconds, .inl (K 0, 60, .inl f_N_seconds)), (a_N_struck, .inl (K 1, 60, .inl u4)), (a_L, .inr (1, [.ref a_P, .ref a_N, .ref a_S, .ref a_L_near, .ref a_L_clear, .int r10, .int 0])), (a_P, .inr (4, [.ref a_T, .ref a_P_xs, .ref a_P_ys, .ref a_P_cells, .ref a_P_lows, .ref a_P_highs, .ref a_P_states, .ref a_P_men, .ref a_P_stores, .int (nI v_P_size)])), (a_P_states, .inl (K 0, 12, .inl f_P_states)), (a_N, .inr (3, [.ref a_N_sorts, .ref a_N_firsts, .ref a_N_seconds, .ref a_N_struck, .ref a_N_least, .ref a_N_greatest, .int (nI v_N_size), .int u2, .int u3, .int (nI v_N_quietUpTo)])), (a_N_least, .inl (K 0, 24, .inl u5)), (a_N_greatest, .inl (K 0, 24, .inl u6)), (a_L_near, .inl (K 0, 12, .inl u13))]) [(a_L_clear, .inl (K 0, 12, .inl f_L_clear))] B hl.1 hP hD hS [13] [0, 1, 2, 3, 4, 5, 6, 7, 8, 9, 10, 11, 12, 14, 15, 16, 17, 18, 19, 20, 21, 22, 23, 24] rfl rfl rfl (wJ7_fill_53178_vF12 l D K _ a_L_clear f_L_clear 0) wd_J7_fill_53178 mml_X1_50 rfl rfl ⟨Nat.le_of_ble_eq_true rfl, Nat.le_of_ble_eq_true rfl⟩ (Nat.le_of_ble_eq_true rfl) ⟨Nat.le_of_ble_eq_true rfl, Nat.le_of_ble_eq_true rfl⟩ dX1_draw_61 (fun u H locs hw hP hD hS => ?_)
    obtain ⟨u15, e9⟩ : ∃ y, y = u := ⟨_, rfl⟩
    subst e9
    try dsimp only at hw
    have hP : va_P D vwCl [(a_T, .inr (9, [.ref a_T_heights, .ref a_T_woods, .ref a_T_treesLow, .ref a_T_treesHigh, .ref a_T_worst, .ref a_T_best, .int (nI v_T_width), .int (nI v_T_height), .int v_T_bending])), (a_T_heights, .inl (K 0, 256, .inl f_T_heights)), (a_T_woods, .inl (K 0, 256, .inl f_T_woods)), (a_T_treesLow, .inl (K 0, 4, .inl f_T_treesLow)), (a_T_treesHigh, .inl (K 0, 4, .inl f_T_treesHigh)), (a_T_worst, .inl (K 0, 24, .inl f_T_worst)), (a_T_best, .inl (K 0, 24, .inl f_T_best)), (a_P_xs, .inl (K 0, 12, .inl f_P_xs)), (a_P_ys, .inl (K 0, 12, .inl f_P_ys)), (a_P_cells, .inl (K 0, 12, .inl f_P_cells)), (a_P_lows, .inl (K 0, 12, .inl f_P_lows)), (a_P_highs, .inl (K 0, 12, .inl f_P_highs)), (a_S, .inr (8, [.ref a_T, .ref a_P])), (a_N_sorts, .inl (K 0, 60, .inl f_N_sorts)), (a_N_firsts, .inl (K 0, 60, .inl f_N_firsts)), (a_N_seconds, .inl (K 0, 60, .inl f_N_seconds)), (a_N_struck, .inl (K 1, 60, .inl u4)), (a_L, .inr (1, [.ref a_P, .ref a_N, .ref a_S, .ref a_L_near, .ref a_L_clear, .int r10, .int 0])), (a_P, .inr (4, [.ref a_T, .ref a_P_xs, .ref a_P_ys, .ref a_P_cells, .ref a_P_lows, .ref a_P_highs, .ref a_P_states, .ref a_P_men, .ref a_P_stores, .int (nI v_P_size)])), (a_P_states, .inl (K 0, 12, .inl f_P_states)), (a_N, .inr (3, [.ref a_N_sorts, .ref a_N_firsts, .ref a_N_seconds, .ref a_N_struck, .ref a_N_least, .ref a_N_greatest, .int (nI v_N_size), .int u2, .int u3, .int (nI v_N_quietUpTo)])), (a_N_least, .inl (K 0, 24, .inl u5)), (a_N_greatest, .inl (K 0, 24, .inl u6)), (a_L_near, .inl (K 0, 12, .inl u13)), (a_L_clear, .inl (K 0, 12, .inl u15))] H := hP
    have hD := uDPJ hP hD
    refine lv_aload_n hx hb dX1_draw_64 rfl (lv_at hl 0 rfl) ?_
    refine uGet (ci := 1) (C := RX1) (T := TX1) (N := 7) (v := .int r10) B inlX1 hP 17 rfl rfl 5 rfl mfl_X1_18 rfl rfl dX1_draw_65 ?_
    refine lv_pc (q := 68) rfl ?_
    refine lv_aload_n hx hb dX1_draw_68 rfl (lv_at hl 0 rfl) ?_
    refine uGet (ci := 1) (C := RX1) (T := TX1) (N := 7) (v := .int 0) B inlX1 hP 17 rfl rfl 6 rfl mfl_X1_22 rfl rfl dX1_draw_69 ?_
    refine lv_ior hx hb dX1_draw_72 ?_
    refine lv_istore (lv' := [(6, .int (r10 ||| 0)), (0, .ref a_L), (1, .int (nI x0)), (2, .int (nI x1)), (3, .int x2), (4, .int x3), (5, .int x4)]) hx hb dX1_draw_73 hl (by decide) rfl (fun ls hl => ?_)
    refine lv_iconst (v := 0) hx hb dX1_draw_75 (by decide) ?_
    refine lv_istore (lv' := [(7, .int 0), (6, .int (r10 ||| 0)), (0, .ref a_L), (1, .int (nI x0)), (2, .int (nI x1)), (3, .int x2), (4, .int x3), (5, .int x4)]) hx hb dX1_draw_76 hl (by decide) rfl (fun ls hl => ?_)
    have L20 : ∀ (n9 : Nat) (j16 : Nat) (f17 : Nat → Int32) (f18 : Nat → Int32), (j16 ≤ v_P_size) → v_P_size - j16 < n9 → ∀ (H : Heap) (locs : List Loc) (ls : Array Slot), va_P D vwCl [(a_T, .inr (9, [.ref a_T_heights, .ref a_T_woods, .ref a_T_treesLow, .ref a_T_treesHigh, .ref a_T_worst, .ref a_T_best, .int (nI v_T_width), .int (nI v_T_height), .int v_T_bending])), (a_T_heights, .inl (K 0, 256, .inl f_T_heights)), (a_T_woods, .inl (K 0, 256, .inl f_T_woods)), (a_T_treesLow, .inl (K 0, 4, .inl f_T_treesLow)), (a_T_treesHigh, .inl (K 0, 4, .inl f_T_treesHigh)), (a_T_worst, .inl (K 0, 24, .inl f_T_worst)), (a_T_best, .inl (K 0, 24, .inl f_T_best)), (a_P_xs, .inl (K 0, 12, .inl f_P_xs)), (a_P_ys, .inl (K 0, 12, .inl f_P_ys)), (a_P_cells, .inl (K 0, 12, .inl f_P_cells)), (a_P_lows, .inl (K 0, 12, .inl f_P_lows)), (a_P_highs, .inl (K 0, 12, .inl f_P_highs)), (a_S, .inr (8, [.ref a_T, .ref a_P])), (a_N_sorts, .inl (K 0, 60, .inl f_N_sorts)), (a_N_firsts, .inl (K 0, 60, .inl f_N_firsts)), (a_N_seconds, .inl (K 0, 60, .inl f_N_seconds)), (a_N_struck, .inl (K 1, 60, .inl u4)), (a_L, .inr (1, [.ref a_P, .ref a_N, .ref a_S, .ref a_L_near, .ref a_L_clear, .int r10, .int 0])), (a_P, .inr (4, [.ref a_T, .ref a_P_xs, .ref a_P_ys, .ref a_P_cells, .ref a_P_lows, .ref a_P_highs, .ref a_P_states, .ref a_P_men, .ref a_P_stores, .int (nI v_P_size)])), (a_P_states, .inl (K 0, 12, .inl f_P_states)), (a_N, .inr (3, [.ref a_N_sorts, .ref a_N_firsts, .ref a_N_seconds, .ref a_N_struck, .ref a_N_least, .ref a_N_greatest, .int (nI v_N_size), .int u2, .int u3, .int (nI v_N_quietUpTo)])), (a_N_least, .inl (K 0, 24, .inl u5)), (a_N_greatest, .inl (K 0, 24, .inl u6)), (a_L_near, .inl (K 0, 12, .inl f17)), (a_L_clear, .inl (K 0, 12, .inl f18))] H → va_D A [(a_T, .inr (9, [.ref a_T_heights, .ref a_T_woods, .ref a_T_treesLow, .ref a_T_treesHigh, .ref a_T_worst, .ref a_T_best, .int (nI v_T_width), .int (nI v_T_height), .int v_T_bending])), (a_T_heights, .inl (K 0, 256, .inl f_T_heights)), (a_T_woods, .inl (K 0, 256, .inl f_T_woods)), (a_T_treesLow, .inl (K 0, 4, .inl f_T_treesLow)), (a_T_treesHigh, .inl (K 0, 4, .inl f_T_treesHigh)), (a_T_worst, .inl (K 0, 24, .inl f_T_worst)), (a_T_best, .inl (K 0, 24, .inl f_T_best)), (a_P_xs, .inl (K 0, 12, .inl f_P_xs)), (a_P_ys, .inl (K 0, 12, .inl f_P_ys)), (a_P_cells, .inl (K 0, 12, .inl f_P_cells)), (a_P_lows, .inl (K 0, 12, .inl f_P_lows)), (a_P_highs, .inl (K 0, 12, .inl f_P_highs)), (a_S, .inr (8, [.ref a_T, .ref a_P])), (a_N_sorts, .inl (K 0, 60, .inl f_N_sorts)), (a_N_firsts, .inl (K 0, 60, .inl f_N_firsts)), (a_N_seconds, .inl (K 0, 60, .inl f_N_seconds)), (a_N_struck, .inl (K 1, 60, .inl u4)), (a_L, .inr (1, [.ref a_P, .ref a_N, .ref a_S, .ref a_L_near, .ref a_L_clear, .int r10, .int 0])), (a_P, .inr (4, [.ref a_T, .ref a_P_xs, .ref a_P_ys, .ref a_P_cells, .ref a_P_lows, .ref a_P_highs, .ref a_P_states, .ref a_P_men, .ref a_P_stores, .int (nI v_P_size)])), (a_P_states, .inl (K 0, 12, .inl f_P_states)), (a_N, .inr (3, [.ref a_N_sorts, .ref a_N_firsts, .ref a_N_seconds, .ref a_N_struck, .ref a_N_least, .ref a_N_greatest, .int (nI v_N_size), .int u2, .int u3, .int (nI v_N_quietUpTo)])), (a_N_least, .inl (K 0, 24, .inl u5)), (a_N_greatest, .inl (K 0, 24, .inl u6)), (a_L_near, .inl (K 0, 12, .inl f17)), (a_L_clear, .inl (K 0, 12, .inl f18))] → va_S A s.heap H locs → lv_has ls 9 [(7, .int (nI j16)), (6, .int (r10 ||| 0)), (0, .ref a_L), (1, .int (nI x0)), (2, .int (nI x1)), (3, .int x2), (4, .int x3), (5, .int x4)] → W p l e { frames := 5, cells := 0, slots := 0, locals := 128 } s m ([.ref a_L, .int (nI x0), .int (nI x1), .int x2, .int x3, .int x4] : List Value).toArray below meth c H locs 0 0 (MQ below (uQv D (qwX1_draw a_L v_L_found v_L_supposed a_T v_T_width v_T_height v_T_bending a_T_heights f_T_heights a_T_woods f_T_woods a_T_treesLow f_T_treesLow a_T_treesHigh f_T_treesHigh a_T_worst f_T_worst a_T_best f_T_best a_P v_P_size a_P_xs f_P_xs a_P_ys f_P_ys a_P_cells f_P_cells a_P_lows f_P_lows a_P_highs f_P_highs a_P_states f_P_states a_S a_N v_N_size v_N_drawnFor v_N_agree v_N_quietUpTo a_N_sorts f_N_sorts a_N_firsts f_N_firsts a_N_seconds f_N_seconds a_N_struck f_N_struck a_N_least f_N_least a_N_greatest f_N_greatest a_L_near f_L_near a_L_clear f_L_clear a_P_men a_P_stores x0 x1 x2 x3 x4) (vwX1_draw K a_L v_L_found v_L_supposed a_T v_T_width v_T_height v_T_bending a_T_heights f_T_heights a_T_woods f_T_woods a_T_treesLow f_T_treesLow a_T_treesHigh f_T_treesHigh a_T_worst f_T_worst a_T_best f_T_best a_P v_P_size a_P_xs f_P_xs a_P_ys f_P_ys a_P_cells f_P_cells a_P_lows f_P_lows a_P_highs f_P_highs a_P_states f_P_states a_S a_N v_N_size v_N_drawnFor v_N_agree v_N_quietUpTo a_N_sorts f_N_sorts a_N_firsts f_N_firsts a_N_seconds f_N_seconds a_N_struck f_N_struck a_N_least f_N_least a_N_greatest f_N_greatest a_L_near f_L_near a_L_clear f_L_clear a_P_men a_P_stores x0 x1 x2 x3 x4) A) ([.ref a_L, .int (nI x0), .int (nI x1), .int x2, .int x3, .int x4] : List Value).toArray s 0 0 A) (F0 m 78 ls []) := by
      intro n9
      induction n9 with
      | zero => intros; exact absurd ‹_ < 0› (Nat.not_lt_zero _)
      | succ n78_ ih78 =>
        intro j16 f17 f18 hj16 hm78 H locs ls hP hD hS hl
        refine lv_pc (q := 78) rfl ?_
        refine lv_iload hx hb dX1_draw_78 (lv_at hl 0 rfl) ?_
        refine lv_aload_n hx hb dX1_draw_80 rfl (lv_at hl 2 rfl) ?_
        refine uGet (ci := 1) (C := RX1) (T := TX1) (N := 7) (v := .ref a_P) B inlX1 hP 17 rfl rfl 0 rfl mfl_X1_25 rfl rfl dX1_draw_81 ?_
        refine uGet (ci := 4) (C := RX4) (T := TX4) (N := 10) (v := .int (nI v_P_size)) B inlX4 hP 18 rfl rfl 9 rfl mfl_X1_56 rfl rfl dX1_draw_84 ?_
        refine lv_icmp_ge (tgt := 160) hx hb dX1_draw_87 (by decide) (fun c21 => ?_) (fun c21 => ?_)
        · have k_21 : v_P_size ≤ j16 := (nI_leI (a := v_P_size) (b := j16) (by omega) (by omega)).mp c21
          exact uRv (r10, 0, u2, u3, u4, u5, u6, f17, f18) B ⟨w7, w8⟩ (uSub hP [17, 0, 1, 2, 3, 4, 5, 6, 18, 7, 8, 9, 10, 11, 19, 12, 20, 13, 14, 15, 16, 21, 22, 23, 24] rfl) (hD.sub [17, 0, 1, 2, 3, 4, 5, 6, 18, 7, 8, 9, 10, 11, 19, 12, 20, 13, 14, 15, 16, 21, 22, 23, 24] rfl rfl) hS dX1_draw_160
        have k_21 : ¬ v_P_size ≤ j16 := fun h9 => c21 ((nI_leI (a := v_P_size) (b := j16) (by omega) (by omega)).mpr h9)
        refine lv_iload hx hb dX1_draw_90 (lv_at hl 0 rfl) ?_
        refine lv_pc (q := 92) rfl ?_
        refine lv_iconst (v := 1) hx hb dX1_draw_92 (by decide) ?_
        refine lv_iadd hx hb dX1_draw_93 ?_
        refine lv_fixi (y := (nI (j16 + 1))) (by rw [show (1 : Int32) = nI 1 from rfl, nI_add]) ?_
        refine lv_istore (lv' := [(8, .int (nI (j16 + 1))), (7, .int (nI j16)), (6, .int (r10 ||| 0)), (0, .ref a_L), (1, .int (nI x0)), (2, .int (nI x1)), (3, .int x2), (4, .int x3), (5, .int x4)]) hx hb dX1_draw_94 hl (by decide) rfl (fun ls hl => ?_)
        have L26 : ∀ (n9 : Nat) (j22 : Nat) (f23 : Nat → Int32) (f24 : Nat → Int32), (j22 ≤ v_P_size) → v_P_size - j22 < n9 → ∀ (H : Heap) (locs : List Loc) (ls : Array Slot), va_P D vwCl [(a_T, .inr (9, [.ref a_T_heights, .ref a_T_woods, .ref a_T_treesLow, .ref a_T_treesHigh, .ref a_T_worst, .ref a_T_best, .int (nI v_T_width), .int (nI v_T_height), .int v_T_bending])), (a_T_heights, .inl (K 0, 256, .inl f_T_heights)), (a_T_woods, .inl (K 0, 256, .inl f_T_woods)), (a_T_treesLow, .inl (K 0, 4, .inl f_T_treesLow)), (a_T_treesHigh, .inl (K 0, 4, .inl f_T_treesHigh)), (a_T_worst, .inl (K 0, 24, .inl f_T_worst)), (a_T_best, .inl (K 0, 24, .inl f_T_best)), (a_P_xs, .inl (K 0, 12, .inl f_P_xs)), (a_P_ys, .inl (K 0, 12, .inl f_P_ys)), (a_P_cells, .inl (K 0, 12, .inl f_P_cells)), (a_P_lows, .inl (K 0, 12, .inl f_P_lows)), (a_P_highs, .inl (K 0, 12, .inl f_P_highs)), (a_S, .inr (8, [.ref a_T, .ref a_P])), (a_N_sorts, .inl (K 0, 60, .inl f_N_sorts)), (a_N_firsts, .inl (K 0, 60, .inl f_N_firsts)), (a_N_seconds, .inl (K 0, 60, .inl f_N_seconds)), (a_N_struck, .inl (K 1, 60, .inl u4)), (a_L, .inr (1, [.ref a_P, .ref a_N, .ref a_S, .ref a_L_near, .ref a_L_clear, .int r10, .int 0])), (a_P, .inr (4, [.ref a_T, .ref a_P_xs, .ref a_P_ys, .ref a_P_cells, .ref a_P_lows, .ref a_P_highs, .ref a_P_states, .ref a_P_men, .ref a_P_stores, .int (nI v_P_size)])), (a_P_states, .inl (K 0, 12, .inl f_P_states)), (a_N, .inr (3, [.ref a_N_sorts, .ref a_N_firsts, .ref a_N_seconds, .ref a_N_struck, .ref a_N_least, .ref a_N_greatest, .int (nI v_N_size), .int u2, .int u3, .int (nI v_N_quietUpTo)])), (a_N_least, .inl (K 0, 24, .inl u5)), (a_N_greatest, .inl (K 0, 24, .inl u6)), (a_L_near, .inl (K 0, 12, .inl f23)), (a_L_clear, .inl (K 0, 12, .inl f24))] H → va_D A [(a_T, .inr (9, [.ref a_T_heights, .ref a_T_woods, .ref a_T_treesLow, .ref a_T_treesHigh, .ref a_T_worst, .ref a_T_best, .int (nI v_T_width), .int (nI v_T_height), .int v_T_bending])), (a_T_heights, .inl (K 0, 256, .inl f_T_heights)), (a_T_woods, .inl (K 0, 256, .inl f_T_woods)), (a_T_treesLow, .inl (K 0, 4, .inl f_T_treesLow)), (a_T_treesHigh, .inl (K 0, 4, .inl f_T_treesHigh)), (a_T_worst, .inl (K 0, 24, .inl f_T_worst)), (a_T_best, .inl (K 0, 24, .inl f_T_best)), (a_P_xs, .inl (K 0, 12, .inl f_P_xs)), (a_P_ys, .inl (K 0, 12, .inl f_P_ys)), (a_P_cells, .inl (K 0, 12, .inl f_P_cells)), (a_P_lows, .inl (K 0, 12, .inl f_P_lows)), (a_P_highs, .inl (K 0, 12, .inl f_P_highs)), (a_S, .inr (8, [.ref a_T, .ref a_P])), (a_N_sorts, .inl (K 0, 60, .inl f_N_sorts)), (a_N_firsts, .inl (K 0, 60, .inl f_N_firsts)), (a_N_seconds, .inl (K 0, 60, .inl f_N_seconds)), (a_N_struck, .inl (K 1, 60, .inl u4)), (a_L, .inr (1, [.ref a_P, .ref a_N, .ref a_S, .ref a_L_near, .ref a_L_clear, .int r10, .int 0])), (a_P, .inr (4, [.ref a_T, .ref a_P_xs, .ref a_P_ys, .ref a_P_cells, .ref a_P_lows, .ref a_P_highs, .ref a_P_states, .ref a_P_men, .ref a_P_stores, .int (nI v_P_size)])), (a_P_states, .inl (K 0, 12, .inl f_P_states)), (a_N, .inr (3, [.ref a_N_sorts, .ref a_N_firsts, .ref a_N_seconds, .ref a_N_struck, .ref a_N_least, .ref a_N_greatest, .int (nI v_N_size), .int u2, .int u3, .int (nI v_N_quietUpTo)])), (a_N_least, .inl (K 0, 24, .inl u5)), (a_N_greatest, .inl (K 0, 24, .inl u6)), (a_L_near, .inl (K 0, 12, .inl f23)), (a_L_clear, .inl (K 0, 12, .inl f24))] → va_S A s.heap H locs → lv_has ls 9 [(8, .int (nI j22)), (7, .int (nI j16)), (6, .int (r10 ||| 0)), (0, .ref a_L), (1, .int (nI x0)), (2, .int (nI x1)), (3, .int x2), (4, .int x3), (5, .int x4)] → W p l e { frames := 5, cells := 0, slots := 0, locals := 128 } s m ([.ref a_L, .int (nI x0), .int (nI x1), .int x2, .int x3, .int x4] : List Value).toArray below meth c H locs 0 0 (MQ below (uQv D (qwX1_draw a_L v_L_found v_L_supposed a_T v_T_width v_T_height v_T_bending a_T_heights f_T_heights a_T_woods f_T_woods a_T_treesLow f_T_treesLow a_T_treesHigh f_T_treesHigh a_T_worst f_T_worst a_T_best f_T_best a_P v_P_size a_P_xs f_P_xs a_P_ys f_P_ys a_P_cells f_P_cells a_P_lows f_P_lows a_P_highs f_P_highs a_P_states f_P_states a_S a_N v_N_size v_N_drawnFor v_N_agree v_N_quietUpTo a_N_sorts f_N_sorts a_N_firsts f_N_firsts a_N_seconds f_N_seconds a_N_struck f_N_struck a_N_least f_N_least a_N_greatest f_N_greatest a_L_near f_L_near a_L_clear f_L_clear a_P_men a_P_stores x0 x1 x2 x3 x4) (vwX1_draw K a_L v_L_found v_L_supposed a_T v_T_width v_T_height v_T_bending a_T_heights f_T_heights a_T_woods f_T_woods a_T_treesLow f_T_treesLow a_T_treesHigh f_T_treesHigh a_T_worst f_T_worst a_T_best f_T_best a_P v_P_size a_P_xs f_P_xs a_P_ys f_P_ys a_P_cells f_P_cells a_P_lows f_P_lows a_P_highs f_P_highs a_P_states f_P_states a_S a_N v_N_size v_N_drawnFor v_N_agree v_N_quietUpTo a_N_sorts f_N_sorts a_N_firsts f_N_firsts a_N_seconds f_N_seconds a_N_struck f_N_struck a_N_least f_N_least a_N_greatest f_N_greatest a_L_near f_L_near a_L_clear f_L_clear a_P_men a_P_stores x0 x1 x2 x3 x4) A) ([.ref a_L, .int (nI x0), .int (nI x1), .int x2, .int x3, .int x4] : List Value).toArray s 0 0 A) (F0 m 96 ls []) := by
          intro n9
          induction n9 with
          | zero => intros; exact absurd ‹_ < 0› (Nat.not_lt_zero _)
          | succ n96_ ih96 =>
            intro j22 f23 f24 hj22 hm96 H locs ls hP hD hS hl
            refine lv_iload hx hb dX1_draw_96 (lv_at hl 0 rfl) ?_
            refine lv_aload_n hx hb dX1_draw_98 rfl (lv_at hl 3 rfl) ?_
            refine uGet (ci := 1) (C := RX1) (T := TX1) (N := 7) (v := .ref a_P) B inlX1 hP 17 rfl rfl 0 rfl mfl_X1_25 rfl rfl dX1_draw_99 ?_
            refine lv_pc (q := 102) rfl ?_
            refine uGet (ci := 4) (C := RX4) (T := TX4) (N := 10) (v := .int (nI v_P_size)) B inlX4 hP 18 rfl rfl 9 rfl mfl_X1_56 rfl rfl dX1_draw_102 ?_
            refine lv_icmp_ge (tgt := 154) hx hb dX1_draw_105 (by decide) (fun c27 => ?_) (fun c27 => ?_)
            · have k_27 : v_P_size ≤ j22 := (nI_leI (a := v_P_size) (b := j22) (by omega) (by omega)).mp c27
              refine lv_iinc (v := nI (j16 + 1)) (lv' := [(7, .int (nI (j16 + 1))), (8, .int (nI j22)), (6, .int (r10 ||| 0)), (0, .ref a_L), (1, .int (nI x0)), (2, .int (nI x1)), (3, .int x2), (4, .int x3), (5, .int x4)]) hx hb dX1_draw_154 hl (k := 1) rfl (nI_1 _) (by decide) rfl (fun ls hl => ?_)
              refine lv_goto (tgt := 78) hx hb dX1_draw_157 (by decide) ?_
              refine lv_pc (q := 78) rfl ?_
              refine W.widen (k := 0) (n := 0) (Nat.le_of_ble_eq_true rfl) (Nat.le_of_ble_eq_true rfl) ?_
              exact ih78 (j16 + 1) f23 f24 (by omega) (by omega) _ _ _ (uSub hP [0, 1, 2, 3, 4, 5, 6, 7, 8, 9, 10, 11, 12, 13, 14, 15, 16, 17, 18, 19, 20, 21, 22, 23, 24] rfl) (hD.sub [0, 1, 2, 3, 4, 5, 6, 7, 8, 9, 10, 11, 12, 13, 14, 15, 16, 17, 18, 19, 20, 21, 22, 23, 24] rfl rfl) hS (lv_sub hl [0, 2, 3, 4, 5, 6, 7, 8] rfl)
            have k_27 : ¬ v_P_size ≤ j22 := fun h9 => c27 ((nI_leI (a := v_P_size) (b := j22) (by omega) (by omega)).mpr h9)
            refine lv_iload hx hb dX1_draw_108 (lv_at hl 2 rfl) ?_
            refine lv_iload hx hb dX1_draw_110 (lv_at hl 1 rfl) ?_
            refine lv_ishr hx hb dX1_draw_112 ?_
            refine lv_iload hx hb dX1_draw_113 (lv_at hl 2 rfl) ?_
            refine lv_pc (q := 115) rfl ?_
            refine lv_iload hx hb dX1_draw_115 (lv_at hl 0 rfl) ?_
            refine lv_ishr hx hb dX1_draw_117 ?_
            refine lv_iand hx hb dX1_draw_118 ?_
            refine lv_iconst (v := 1) hx hb dX1_draw_119 (by decide) ?_
            refine lv_iand hx hb dX1_draw_120 ?_
            refine lv_iconst (v := 1) hx hb dX1_draw_121 (by decide) ?_
            refine lv_pc (q := 122) rfl ?_
            refine lv_icmp_ne (tgt := 148) hx hb dX1_draw_122 (by decide) (fun c28 => ?_) (fun c28 => ?_)
            · refine lv_iinc (v := nI (j22 + 1)) (lv' := [(8, .int (nI (j22 + 1))), (7, .int (nI j16)), (6, .int (r10 ||| 0)), (0, .ref a_L), (1, .int (nI x0)), (2, .int (nI x1)), (3, .int x2), (4, .int x3), (5, .int x4)]) hx hb dX1_draw_148 hl (k := 0) rfl (nI_1 _) (by decide) rfl (fun ls hl => ?_)
              refine lv_goto (tgt := 96) hx hb dX1_draw_151 (by decide) ?_
              refine lv_pc (q := 96) rfl ?_
              refine W.widen (k := 0) (n := 0) (Nat.le_of_ble_eq_true rfl) (Nat.le_of_ble_eq_true rfl) ?_
              exact ih96 (j22 + 1) f23 f24 (by omega) (by omega) _ _ _ (uSub hP [0, 1, 2, 3, 4, 5, 6, 7, 8, 9, 10, 11, 12, 13, 14, 15, 16, 17, 18, 19, 20, 21, 22, 23, 24] rfl) (hD.sub [0, 1, 2, 3, 4, 5, 6, 7, 8, 9, 10, 11, 12, 13, 14, 15, 16, 17, 18, 19, 20, 21, 22, 23, 24] rfl rfl) hS (lv_sub hl [0, 1, 2, 3, 4, 5, 6, 7, 8] rfl)
            refine lv_aload_n hx hb dX1_draw_125 rfl (lv_at hl 3 rfl) ?_
            refine lv_iload hx hb dX1_draw_126 (lv_at hl 1 rfl) ?_
            refine lv_iload hx hb dX1_draw_128 (lv_at hl 0 rfl) ?_
            refine lv_aload_n hx hb dX1_draw_130 rfl (lv_at hl 3 rfl) ?_
            refine uGet (ci := 1) (C := RX1) (T := TX1) (N := 7) (v := .ref a_S) B inlX1 hP 17 rfl rfl 2 rfl mfl_X1_33 rfl rfl dX1_draw_131 ?_
            refine lv_pc (q := 134) rfl ?_
            refine lv_iload hx hb dX1_draw_134 (lv_at hl 1 rfl) ?_
            refine lv_iload hx hb dX1_draw_136 (lv_at hl 0 rfl) ?_
            refine lv_iload_n hx hb dX1_draw_138 rfl (lv_at hl 4 rfl) ?_
            refine lv_iload_n hx hb dX1_draw_139 rfl (lv_at hl 5 rfl) ?_
            refine uVi (As := [.int (nI j16), .int (nI j22), .int (nI x0), .int (nI x1)]) (rest := [.int (nI j22), .int (nI j16), .ref a_L]) (wr := [(a_N_sorts, .inl (K 0, 60, .inl f_N_sorts)), (a_N_firsts, .inl (K 0, 60, .inl f_N_firsts)), (a_N_seconds, .inl (K 0, 60, .inl f_N_seconds)), (a_N_struck, .inl (K 1, 60, .inl u4)), (a_L, .inr (1, [.ref a_P, .ref a_N, .ref a_S, .ref a_L_near, .ref a_L_clear, .int r10, .int 0])), (a_P_states, .inl (K 0, 12, .inl f_P_states)), (a_N, .inr (3, [.ref a_N_sorts, .ref a_N_firsts, .ref a_N_seconds, .ref a_N_struck, .ref a_N_least, .ref a_N_greatest, .int (nI v_N_size), .int u2, .int u3, .int (nI v_N_quietUpTo)])), (a_N_least, .inl (K 0, 24, .inl u5)), (a_N_greatest, .inl (K 0, 24, .inl u6)), (a_L_near, .inl (K 0, 12, .inl f23)), (a_L_clear, .inl (K 0, 12, .inl f24))]) [(a_S, .inr (8, [.ref a_T, .ref a_P])), (a_T, .inr (9, [.ref a_T_heights, .ref a_T_woods, .ref a_T_treesLow, .ref a_T_treesHigh, .ref a_T_worst, .ref a_T_best, .int (nI v_T_width), .int (nI v_T_height), .int v_T_bending])), (a_T_heights, .inl (K 0, 256, .inl f_T_heights)), (a_T_woods, .inl (K 0, 256, .inl f_T_woods)), (a_T_treesLow, .inl (K 0, 4, .inl f_T_treesLow)), (a_T_treesHigh, .inl (K 0, 4, .inl f_T_treesHigh)), (a_T_worst, .inl (K 0, 24, .inl f_T_worst)), (a_T_best, .inl (K 0, 24, .inl f_T_best)), (a_P, .inr (4, [.ref a_T, .ref a_P_xs, .ref a_P_ys, .ref a_P_cells, .ref a_P_lows, .ref a_P_highs, .ref a_P_states, .ref a_P_men, .ref a_P_stores, .int (nI v_P_size)])), (a_P_xs, .inl (K 0, 12, .inl f_P_xs)), (a_P_ys, .inl (K 0, 12, .inl f_P_ys)), (a_P_cells, .inl (K 0, 12, .inl f_P_cells)), (a_P_lows, .inl (K 0, 12, .inl f_P_lows)), (a_P_highs, .inl (K 0, 12, .inl f_P_highs))] B hl.1 hP hD hS [12, 0, 1, 2, 3, 4, 5, 6, 18, 7, 8, 9, 10, 11] [13, 14, 15, 16, 17, 19, 20, 21, 22, 23, 24] rfl rfl rfl (wX8_linkOf l D K _ a_S a_T v_T_width v_T_height v_T_bending a_T_heights f_T_heights a_T_woods f_T_woods a_T_treesLow f_T_treesLow a_T_treesHigh f_T_treesHigh a_T_worst f_T_worst a_T_best f_T_best a_P v_P_size a_P_xs f_P_xs a_P_ys f_P_ys a_P_cells f_P_cells a_P_lows f_P_lows a_P_highs f_P_highs a_P_states a_P_men a_P_stores j16 j22 x0 x1 (by omega) (by omega) (by omega) (by omega) r_T_woods (by omega) r_P_xs r_P_ys r_P_cells (by omega) (by omega) (by omega) (by omega)) wd_X8_linkOf mml_X1_59 rfl rfl rfl rfl ⟨Nat.le_of_ble_eq_true rfl, Nat.le_of_ble_eq_true rfl⟩ (Nat.le_of_ble_eq_true rfl) ⟨Nat.le_of_ble_eq_true rfl, Nat.le_of_ble_eq_true rfl⟩ dX1_draw_140 (fun r29 u H locs hw hP hD hS => ?_)
            try dsimp only at hw
            have hP : va_P D vwCl [(a_N_sorts, .inl (K 0, 60, .inl f_N_sorts)), (a_N_firsts, .inl (K 0, 60, .inl f_N_firsts)), (a_N_seconds, .inl (K 0, 60, .inl f_N_seconds)), (a_N_struck, .inl (K 1, 60, .inl u4)), (a_L, .inr (1, [.ref a_P, .ref a_N, .ref a_S, .ref a_L_near, .ref a_L_clear, .int r10, .int 0])), (a_P_states, .inl (K 0, 12, .inl f_P_states)), (a_N, .inr (3, [.ref a_N_sorts, .ref a_N_firsts, .ref a_N_seconds, .ref a_N_struck, .ref a_N_least, .ref a_N_greatest, .int (nI v_N_size), .int u2, .int u3, .int (nI v_N_quietUpTo)])), (a_N_least, .inl (K 0, 24, .inl u5)), (a_N_greatest, .inl (K 0, 24, .inl u6)), (a_L_near, .inl (K 0, 12, .inl f23)), (a_L_clear, .inl (K 0, 12, .inl f24)), (a_S, .inr (8, [.ref a_T, .ref a_P])), (a_T, .inr (9, [.ref a_T_heights, .ref a_T_woods, .ref a_T_treesLow, .ref a_T_treesHigh, .ref a_T_worst, .ref a_T_best, .int (nI v_T_width), .int (nI v_T_height), .int v_T_bending])), (a_T_heights, .inl (K 0, 256, .inl f_T_heights)), (a_T_woods, .inl (K 0, 256, .inl f_T_woods)), (a_T_treesLow, .inl (K 0, 4, .inl f_T_treesLow)), (a_T_treesHigh, .inl (K 0, 4, .inl f_T_treesHigh)), (a_T_worst, .inl (K 0, 24, .inl f_T_worst)), (a_T_best, .inl (K 0, 24, .inl f_T_best)), (a_P, .inr (4, [.ref a_T, .ref a_P_xs, .ref a_P_ys, .ref a_P_cells, .ref a_P_lows, .ref a_P_highs, .ref a_P_states, .ref a_P_men, .ref a_P_stores, .int (nI v_P_size)])), (a_P_xs, .inl (K 0, 12, .inl f_P_xs)), (a_P_ys, .inl (K 0, 12, .inl f_P_ys)), (a_P_cells, .inl (K 0, 12, .inl f_P_cells)), (a_P_lows, .inl (K 0, 12, .inl f_P_lows)), (a_P_highs, .inl (K 0, 12, .inl f_P_highs))] H := hP
            have hD := uDPJ hP hD
            refine lv_iload hx hb dX1_draw_143 (lv_at hl 7 rfl) ?_
            refine lv_pc (q := 145) rfl ?_
            refine uVv (As := [.int (nI j16), .int (nI j22), .int r29, .int x3]) (rest := []) (wr := [(a_N_sorts, .inl (K 0, 60, .inl f_N_sorts)), (a_N_firsts, .inl (K 0, 60, .inl f_N_firsts)), (a_N_seconds, .inl (K 0, 60, .inl f_N_seconds)), (a_N_struck, .inl (K 1, 60, .inl u4)), (a_P_states, .inl (K 0, 12, .inl f_P_states)), (a_N, .inr (3, [.ref a_N_sorts, .ref a_N_firsts, .ref a_N_seconds, .ref a_N_struck, .ref a_N_least, .ref a_N_greatest, .int (nI v_N_size), .int u2, .int u3, .int (nI v_N_quietUpTo)])), (a_N_least, .inl (K 0, 24, .inl u5)), (a_N_greatest, .inl (K 0, 24, .inl u6)), (a_S, .inr (8, [.ref a_T, .ref a_P])), (a_T, .inr (9, [.ref a_T_heights, .ref a_T_woods, .ref a_T_treesLow, .ref a_T_treesHigh, .ref a_T_worst, .ref a_T_best, .int (nI v_T_width), .int (nI v_T_height), .int v_T_bending])), (a_T_heights, .inl (K 0, 256, .inl f_T_heights)), (a_T_woods, .inl (K 0, 256, .inl f_T_woods)), (a_T_treesLow, .inl (K 0, 4, .inl f_T_treesLow)), (a_T_treesHigh, .inl (K 0, 4, .inl f_T_treesHigh)), (a_T_worst, .inl (K 0, 24, .inl f_T_worst)), (a_T_best, .inl (K 0, 24, .inl f_T_best)), (a_P, .inr (4, [.ref a_T, .ref a_P_xs, .ref a_P_ys, .ref a_P_cells, .ref a_P_lows, .ref a_P_highs, .ref a_P_states, .ref a_P_men, .ref a_P_stores, .int (nI v_P_size)])), (a_P_xs, .inl (K 0, 12, .inl f_P_xs)), (a_P_ys, .inl (K 0, 12, .inl f_P_ys)), (a_P_cells, .inl (K 0, 12, .inl f_P_cells)), (a_P_lows, .inl (K 0, 12, .inl f_P_lows)), (a_P_highs, .inl (K 0, 12, .inl f_P_highs))]) [(a_L, .inr (1, [.ref a_P, .ref a_N, .ref a_S, .ref a_L_near, .ref a_L_clear, .int r10, .int 0])), (a_L_near, .inl (K 0, 12, .inl f23)), (a_L_clear, .inl (K 0, 12, .inl f24))] B hl.1 hP hD hS [4, 9, 10] [0, 1, 2, 3, 5, 6, 7, 8, 11, 12, 13, 14, 15, 16, 17, 18, 19, 20, 21, 22, 23, 24] rfl rfl rfl (wX1_tie l D K _ a_L r10 0 a_L_near f23 a_L_clear f24 a_P a_N a_S j16 j22 r29 x3 (by omega) (by omega)) wd_X1_tie mml_X1_65 rfl rfl rfl rfl ⟨Nat.le_of_ble_eq_true rfl, Nat.le_of_ble_eq_true rfl⟩ (Nat.le_of_ble_eq_true rfl) ⟨Nat.le_of_ble_eq_true rfl, Nat.le_of_ble_eq_true rfl⟩ dX1_draw_145 (fun u H locs hw hP hD hS => ?_)
            obtain ⟨u31, u32⟩ := u
            try dsimp only at hw
            have hP : va_P D vwCl [(a_N_sorts, .inl (K 0, 60, .inl f_N_sorts)), (a_N_firsts, .inl (K 0, 60, .inl f_N_firsts)), (a_N_seconds, .inl (K 0, 60, .inl f_N_seconds)), (a_N_struck, .inl (K 1, 60, .inl u4)), (a_P_states, .inl (K 0, 12, .inl f_P_states)), (a_N, .inr (3, [.ref a_N_sorts, .ref a_N_firsts, .ref a_N_seconds, .ref a_N_struck, .ref a_N_least, .ref a_N_greatest, .int (nI v_N_size), .int u2, .int u3, .int (nI v_N_quietUpTo)])), (a_N_least, .inl (K 0, 24, .inl u5)), (a_N_greatest, .inl (K 0, 24, .inl u6)), (a_S, .inr (8, [.ref a_T, .ref a_P])), (a_T, .inr (9, [.ref a_T_heights, .ref a_T_woods, .ref a_T_treesLow, .ref a_T_treesHigh, .ref a_T_worst, .ref a_T_best, .int (nI v_T_width), .int (nI v_T_height), .int v_T_bending])), (a_T_heights, .inl (K 0, 256, .inl f_T_heights)), (a_T_woods, .inl (K 0, 256, .inl f_T_woods)), (a_T_treesLow, .inl (K 0, 4, .inl f_T_treesLow)), (a_T_treesHigh, .inl (K 0, 4, .inl f_T_treesHigh)), (a_T_worst, .inl (K 0, 24, .inl f_T_worst)), (a_T_best, .inl (K 0, 24, .inl f_T_best)), (a_P, .inr (4, [.ref a_T, .ref a_P_xs, .ref a_P_ys, .ref a_P_cells, .ref a_P_lows, .ref a_P_highs, .ref a_P_states, .ref a_P_men, .ref a_P_stores, .int (nI v_P_size)])), (a_P_xs, .inl (K 0, 12, .inl f_P_xs)), (a_P_ys, .inl (K 0, 12, .inl f_P_ys)), (a_P_cells, .inl (K 0, 12, .inl f_P_cells)), (a_P_lows, .inl (K 0, 12, .inl f_P_lows)), (a_P_highs, .inl (K 0, 12, .inl f_P_highs)), (a_L, .inr (1, [.ref a_P, .ref a_N, .ref a_S, .ref a_L_near, .ref a_L_clear, .int r10, .int 0])), (a_L_near, .inl (K 0, 12, .inl u31)), (a_L_clear, .inl (K 0, 12, .inl u32))] H := hP
            have hD := uDPJ hP hD
            refine lv_iinc (v := nI (j22 + 1)) (lv' := [(8, .int (nI (j22 + 1))), (7, .int (nI j16)), (6, .int (r10 ||| 0)), (0, .ref a_L), (1, .int (nI x0)), (2, .int (nI x1)), (3, .int x2), (4, .int x3), (5, .int x4)]) hx hb dX1_draw_148 hl (k := 0) rfl (nI_1 _) (by decide) rfl (fun ls hl => ?_)
            refine lv_goto (tgt := 96) hx hb dX1_draw_151 (by decide) ?_
            refine lv_pc (q := 96) rfl ?_
            refine W.widen (k := 0) (n := 0) (Nat.le_of_ble_eq_true rfl) (Nat.le_of_ble_eq_true rfl) ?_
            exact ih96 (j22 + 1) u31 u32 (by omega) (by omega) _ _ _ (uSub hP [9, 10, 11, 12, 13, 14, 15, 17, 18, 19, 20, 21, 8, 0, 1, 2, 3, 22, 16, 4, 5, 6, 7, 23, 24] rfl) (hD.sub [9, 10, 11, 12, 13, 14, 15, 17, 18, 19, 20, 21, 8, 0, 1, 2, 3, 22, 16, 4, 5, 6, 7, 23, 24] rfl rfl) hS (lv_sub hl [0, 1, 2, 3, 4, 5, 6, 7, 8] rfl)
        refine lv_pc (q := 96) rfl ?_
        refine W.widen (k := 0) (n := 0) (Nat.le_of_ble_eq_true rfl) (Nat.le_of_ble_eq_true rfl) ?_
        exact L26 ((v_P_size - (j16 + 1)) + 1) (j16 + 1) f17 f18 (by omega) (Nat.lt_succ_self _) _ _ _ hP hD hS hl
    refine lv_pc (q := 78) rfl ?_
    refine W.widen (k := 0) (n := 0) (Nat.le_of_ble_eq_true rfl) (Nat.le_of_ble_eq_true rfl) ?_
    exact L20 ((v_P_size - 0) + 1) 0 u13 u15 (by omega) (Nat.lt_succ_self _) _ _ _ hP hD hS hl
  refine lv_pc (q := 33) rfl ?_
  refine lv_aload_n hx hb dX1_draw_33 rfl (lv_at hl 0 rfl) ?_
  refine lv_iconst (v := 1) hx hb dX1_draw_34 (by decide) ?_
  refine lv_iload_n hx hb dX1_draw_35 rfl (lv_at hl 3 rfl) ?_
  refine lv_iload hx hb dX1_draw_36 (lv_at hl 4 rfl) ?_
  refine uVi (As := [.int 1, .int x2, .int x3]) (rest := [.ref a_L]) (wr := [(a_T, .inr (9, [.ref a_T_heights, .ref a_T_woods, .ref a_T_treesLow, .ref a_T_treesHigh, .ref a_T_worst, .ref a_T_best, .int (nI v_T_width), .int (nI v_T_height), .int v_T_bending])), (a_T_heights, .inl (K 0, 256, .inl f_T_heights)), (a_T_woods, .inl (K 0, 256, .inl f_T_woods)), (a_T_treesLow, .inl (K 0, 4, .inl f_T_treesLow)), (a_T_treesHigh, .inl (K 0, 4, .inl f_T_treesHigh)), (a_T_worst, .inl (K 0, 24, .inl f_T_worst)), (a_T_best, .inl (K 0, 24, .inl f_T_best)), (a_P_xs, .inl (K 0, 12, .inl f_P_xs)), (a_P_ys, .inl (K 0, 12, .inl f_P_ys)), (a_P_cells, .inl (K 0, 12, .inl f_P_cells)), (a_P_lows, .inl (K 0, 12, .inl f_P_lows)), (a_P_highs, .inl (K 0, 12, .inl f_P_highs)), (a_S, .inr (8, [.ref a_T, .ref a_P])), (a_L_near, .inl (K 0, 12, .inl f_L_near)), (a_L_clear, .inl (K 0, 12, .inl f_L_clear)), (a_N_sorts, .inl (K 0, 60, .inl f_N_sorts)), (a_N_firsts, .inl (K 0, 60, .inl f_N_firsts)), (a_N_seconds, .inl (K 0, 60, .inl f_N_seconds)), (a_N_struck, .inl (K 1, 60, .inl u4))]) [(a_L, .inr (1, [.ref a_P, .ref a_N, .ref a_S, .ref a_L_near, .ref a_L_clear, .int r10, .int v_L_supposed])), (a_P, .inr (4, [.ref a_T, .ref a_P_xs, .ref a_P_ys, .ref a_P_cells, .ref a_P_lows, .ref a_P_highs, .ref a_P_states, .ref a_P_men, .ref a_P_stores, .int (nI v_P_size)])), (a_P_states, .inl (K 0, 12, .inl f_P_states)), (a_N, .inr (3, [.ref a_N_sorts, .ref a_N_firsts, .ref a_N_seconds, .ref a_N_struck, .ref a_N_least, .ref a_N_greatest, .int (nI v_N_size), .int u2, .int u3, .int (nI v_N_quietUpTo)])), (a_N_least, .inl (K 0, 24, .inl u5)), (a_N_greatest, .inl (K 0, 24, .inl u6))] B hl.1 hP hD hS [19, 20, 21, 22, 23, 24] [0, 1, 2, 3, 4, 5, 6, 7, 8, 9, 10, 11, 12, 13, 14, 15, 16, 17, 18] rfl rfl rfl (wX1_standingAs l D K _ a_L r10 v_L_supposed a_P v_P_size a_P_states f_P_states a_N v_N_size u2 u3 v_N_quietUpTo a_N_least u5 a_N_greatest u6 a_S a_L_near a_L_clear a_T a_P_xs a_P_ys a_P_cells a_P_lows a_P_highs a_P_men a_P_stores a_N_sorts a_N_firsts a_N_seconds a_N_struck 1 x2 x3 (by omega) (by omega) w7 (by omega)) wd_X1_standingAs mml_X1_46 rfl rfl rfl rfl ⟨Nat.le_of_ble_eq_true rfl, Nat.le_of_ble_eq_true rfl⟩ (Nat.le_of_ble_eq_true rfl) ⟨Nat.le_of_ble_eq_true rfl, Nat.le_of_ble_eq_true rfl⟩ dX1_draw_38 (fun r33 u H locs hw hP hD hS => ?_)
  try dsimp only at hw
  have hP : va_P D vwCl [(a_T, .inr (9, [.ref a_T_heights, .ref a_T_woods, .ref a_T_treesLow, .ref a_T_treesHigh, .ref a_T_worst, .ref a_T_best, .int (nI v_T_width), .int (nI v_T_height), .int v_T_bending])), (a_T_heights, .inl (K 0, 256, .inl f_T_heights)), (a_T_woods, .inl (K 0, 256, .inl f_T_woods)), (a_T_treesLow, .inl (K 0, 4, .inl f_T_treesLow)), (a_T_treesHigh, .inl (K 0, 4, .inl f_T_treesHigh)), (a_T_worst, .inl (K 0, 24, .inl f_T_worst)), (a_T_best, .inl (K 0, 24, .inl f_T_best)), (a_P_xs, .inl (K 0, 12, .inl f_P_xs)), (a_P_ys, .inl (K 0, 12, .inl f_P_ys)), (a_P_cells, .inl (K 0, 12, .inl f_P_cells)), (a_P_lows, .inl (K 0, 12, .inl f_P_lows)), (a_P_highs, .inl (K 0, 12, .inl f_P_highs)), (a_S, .inr (8, [.ref a_T, .ref a_P])), (a_L_near, .inl (K 0, 12, .inl f_L_near)), (a_L_clear, .inl (K 0, 12, .inl f_L_clear)), (a_N_sorts, .inl (K 0, 60, .inl f_N_sorts)), (a_N_firsts, .inl (K 0, 60, .inl f_N_firsts)), (a_N_seconds, .inl (K 0, 60, .inl f_N_seconds)), (a_N_struck, .inl (K 1, 60, .inl u4)), (a_L, .inr (1, [.ref a_P, .ref a_N, .ref a_S, .ref a_L_near, .ref a_L_clear, .int r10, .int v_L_supposed])), (a_P, .inr (4, [.ref a_T, .ref a_P_xs, .ref a_P_ys, .ref a_P_cells, .ref a_P_lows, .ref a_P_highs, .ref a_P_states, .ref a_P_men, .ref a_P_stores, .int (nI v_P_size)])), (a_P_states, .inl (K 0, 12, .inl f_P_states)), (a_N, .inr (3, [.ref a_N_sorts, .ref a_N_firsts, .ref a_N_seconds, .ref a_N_struck, .ref a_N_least, .ref a_N_greatest, .int (nI v_N_size), .int u2, .int u3, .int (nI v_N_quietUpTo)])), (a_N_least, .inl (K 0, 24, .inl u5)), (a_N_greatest, .inl (K 0, 24, .inl u6))] H := hP
  have hD := uDPJ hP hD
  refine lv_goto (tgt := 45) hx hb dX1_draw_41 (by decide) ?_
  refine lv_pc (q := 45) rfl ?_
  refine uPut (ci := 1) (C := RX1) (T := TX1) (N := 7) (ws' := [(a_T, .inr (9, [.ref a_T_heights, .ref a_T_woods, .ref a_T_treesLow, .ref a_T_treesHigh, .ref a_T_worst, .ref a_T_best, .int (nI v_T_width), .int (nI v_T_height), .int v_T_bending])), (a_T_heights, .inl (K 0, 256, .inl f_T_heights)), (a_T_woods, .inl (K 0, 256, .inl f_T_woods)), (a_T_treesLow, .inl (K 0, 4, .inl f_T_treesLow)), (a_T_treesHigh, .inl (K 0, 4, .inl f_T_treesHigh)), (a_T_worst, .inl (K 0, 24, .inl f_T_worst)), (a_T_best, .inl (K 0, 24, .inl f_T_best)), (a_P_xs, .inl (K 0, 12, .inl f_P_xs)), (a_P_ys, .inl (K 0, 12, .inl f_P_ys)), (a_P_cells, .inl (K 0, 12, .inl f_P_cells)), (a_P_lows, .inl (K 0, 12, .inl f_P_lows)), (a_P_highs, .inl (K 0, 12, .inl f_P_highs)), (a_S, .inr (8, [.ref a_T, .ref a_P])), (a_L_near, .inl (K 0, 12, .inl f_L_near)), (a_L_clear, .inl (K 0, 12, .inl f_L_clear)), (a_N_sorts, .inl (K 0, 60, .inl f_N_sorts)), (a_N_firsts, .inl (K 0, 60, .inl f_N_firsts)), (a_N_seconds, .inl (K 0, 60, .inl f_N_seconds)), (a_N_struck, .inl (K 1, 60, .inl u4)), (a_L, .inr (1, [.ref a_P, .ref a_N, .ref a_S, .ref a_L_near, .ref a_L_clear, .int r10, .int r33])), (a_P, .inr (4, [.ref a_T, .ref a_P_xs, .ref a_P_ys, .ref a_P_cells, .ref a_P_lows, .ref a_P_highs, .ref a_P_states, .ref a_P_men, .ref a_P_stores, .int (nI v_P_size)])), (a_P_states, .inl (K 0, 12, .inl f_P_states)), (a_N, .inr (3, [.ref a_N_sorts, .ref a_N_firsts, .ref a_N_seconds, .ref a_N_struck, .ref a_N_least, .ref a_N_greatest, .int (nI v_N_size), .int u2, .int u3, .int (nI v_N_quietUpTo)])), (a_N_least, .inl (K 0, 24, .inl u5)), (a_N_greatest, .inl (K 0, 24, .inl u6))]) B inlX1 tyX1_ok nmX1 hP hD hS 19 rfl rfl 6 rfl mfl_X1_22 rfl rfl rfl rfl rfl rfl dX1_draw_45 (fun H locs hP hD hS => ?_)
  refine lv_aload_n hx hb dX1_draw_48 rfl (lv_at hl 0 rfl) ?_
  refine uGet (ci := 1) (C := RX1) (T := TX1) (N := 7) (v := .ref a_L_near) B inlX1 hP 19 rfl rfl 3 rfl mfl_X1_9 rfl rfl dX1_draw_49 ?_
  refine lv_iconst (v := 0) hx hb dX1_draw_52 (by decide) ?_
  refine uSv (As := [.ref a_L_near, .int 0]) (rest := []) (wr := [(a_T, .inr (9, [.ref a_T_heights, .ref a_T_woods, .ref a_T_treesLow, .ref a_T_treesHigh, .ref a_T_worst, .ref a_T_best, .int (nI v_T_width), .int (nI v_T_height), .int v_T_bending])), (a_T_heights, .inl (K 0, 256, .inl f_T_heights)), (a_T_woods, .inl (K 0, 256, .inl f_T_woods)), (a_T_treesLow, .inl (K 0, 4, .inl f_T_treesLow)), (a_T_treesHigh, .inl (K 0, 4, .inl f_T_treesHigh)), (a_T_worst, .inl (K 0, 24, .inl f_T_worst)), (a_T_best, .inl (K 0, 24, .inl f_T_best)), (a_P_xs, .inl (K 0, 12, .inl f_P_xs)), (a_P_ys, .inl (K 0, 12, .inl f_P_ys)), (a_P_cells, .inl (K 0, 12, .inl f_P_cells)), (a_P_lows, .inl (K 0, 12, .inl f_P_lows)), (a_P_highs, .inl (K 0, 12, .inl f_P_highs)), (a_S, .inr (8, [.ref a_T, .ref a_P])), (a_L_clear, .inl (K 0, 12, .inl f_L_clear)), (a_N_sorts, .inl (K 0, 60, .inl f_N_sorts)), (a_N_firsts, .inl (K 0, 60, .inl f_N_firsts)), (a_N_seconds, .inl (K 0, 60, .inl f_N_seconds)), (a_N_struck, .inl (K 1, 60, .inl u4)), (a_L, .inr (1, [.ref a_P, .ref a_N, .ref a_S, .ref a_L_near, .ref a_L_clear, .int r10, .int r33])), (a_P, .inr (4, [.ref a_T, .ref a_P_xs, .ref a_P_ys, .ref a_P_cells, .ref a_P_lows, .ref a_P_highs, .ref a_P_states, .ref a_P_men, .ref a_P_stores, .int (nI v_P_size)])), (a_P_states, .inl (K 0, 12, .inl f_P_states)), (a_N, .inr (3, [.ref a_N_sorts, .ref a_N_firsts, .ref a_N_seconds, .ref a_N_struck, .ref a_N_least, .ref a_N_greatest, .int (nI v_N_size), .int u2, .int u3, .int (nI v_N_quietUpTo)])), (a_N_least, .inl (K 0, 24, .inl u5)), (a_N_greatest, .inl (K 0, 24, .inl u6))]) [(a_L_near, .inl (K 0, 12, .inl f_L_near))] B hl.1 hP hD hS [13] [0, 1, 2, 3, 4, 5, 6, 7, 8, 9, 10, 11, 12, 14, 15, 16, 17, 18, 19, 20, 21, 22, 23, 24] rfl rfl rfl (wJ7_fill_53178_vF12 l D K _ a_L_near f_L_near 0) wd_J7_fill_53178 mml_X1_50 rfl rfl ⟨Nat.le_of_ble_eq_true rfl, Nat.le_of_ble_eq_true rfl⟩ (Nat.le_of_ble_eq_true rfl) ⟨Nat.le_of_ble_eq_true rfl, Nat.le_of_ble_eq_true rfl⟩ dX1_draw_53 (fun u H locs hw hP hD hS => ?_)
  obtain ⟨u35, e9⟩ : ∃ y, y = u := ⟨_, rfl⟩
  subst e9
  try dsimp only at hw
  have hP : va_P D vwCl [(a_T, .inr (9, [.ref a_T_heights, .ref a_T_woods, .ref a_T_treesLow, .ref a_T_treesHigh, .ref a_T_worst, .ref a_T_best, .int (nI v_T_width), .int (nI v_T_height), .int v_T_bending])), (a_T_heights, .inl (K 0, 256, .inl f_T_heights)), (a_T_woods, .inl (K 0, 256, .inl f_T_woods)), (a_T_treesLow, .inl (K 0, 4, .inl f_T_treesLow)), (a_T_treesHigh, .inl (K 0, 4, .inl f_T_treesHigh)), (a_T_worst, .inl (K 0, 24, .inl f_T_worst)), (a_T_best, .inl (K 0, 24, .inl f_T_best)), (a_P_xs, .inl (K 0, 12, .inl f_P_xs)), (a_P_ys, .inl (K 0, 12, .inl f_P_ys)), (a_P_cells, .inl (K 0, 12, .inl f_P_cells)), (a_P_lows, .inl (K 0, 12, .inl f_P_lows)), (a_P_highs, .inl (K 0, 12, .inl f_P_highs)), (a_S, .inr (8, [.ref a_T, .ref a_P])), (a_L_clear, .inl (K 0, 12, .inl f_L_clear)), (a_N_sorts, .inl (K 0, 60, .inl f_N_sorts)), (a_N_firsts, .inl (K 0, 60, .inl f_N_firsts)), (a_N_seconds, .inl (K 0, 60, .inl f_N_seconds)), (a_N_struck, .inl (K 1, 60, .inl u4)), (a_L, .inr (1, [.ref a_P, .ref a_N, .ref a_S, .ref a_L_near, .ref a_L_clear, .int r10, .int r33])), (a_P, .inr (4, [.ref a_T, .ref a_P_xs, .ref a_P_ys, .ref a_P_cells, .ref a_P_lows, .ref a_P_highs, .ref a_P_states, .ref a_P_men, .ref a_P_stores, .int (nI v_P_size)])), (a_P_states, .inl (K 0, 12, .inl f_P_states)), (a_N, .inr (3, [.ref a_N_sorts, .ref a_N_firsts, .ref a_N_seconds, .ref a_N_struck, .ref a_N_least, .ref a_N_greatest, .int (nI v_N_size), .int u2, .int u3, .int (nI v_N_quietUpTo)])), (a_N_least, .inl (K 0, 24, .inl u5)), (a_N_greatest, .inl (K 0, 24, .inl u6)), (a_L_near, .inl (K 0, 12, .inl u35))] H := hP
  have hD := uDPJ hP hD
  refine lv_aload_n hx hb dX1_draw_56 rfl (lv_at hl 0 rfl) ?_
  refine lv_pc (q := 57) rfl ?_
  refine uGet (ci := 1) (C := RX1) (T := TX1) (N := 7) (v := .ref a_L_clear) B inlX1 hP 18 rfl rfl 4 rfl mfl_X1_15 rfl rfl dX1_draw_57 ?_
  refine lv_iconst (v := 0) hx hb dX1_draw_60 (by decide) ?_
  refine uSv (As := [.ref a_L_clear, .int 0]) (rest := []) (wr := [(a_T, .inr (9, [.ref a_T_heights, .ref a_T_woods, .ref a_T_treesLow, .ref a_T_treesHigh, .ref a_T_worst, .ref a_T_best, .int (nI v_T_width), .int (nI v_T_height), .int v_T_bending])), (a_T_heights, .inl (K 0, 256, .inl f_T_heights)), (a_T_woods, .inl (K 0, 256, .inl f_T_woods)), (a_T_treesLow, .inl (K 0, 4, .inl f_T_treesLow)), (a_T_treesHigh, .inl (K 0, 4, .inl f_T_treesHigh)), (a_T_worst, .inl (K 0, 24, .inl f_T_worst)), (a_T_best, .inl (K 0, 24, .inl f_T_best)), (a_P_xs, .inl (K 0, 12, .inl f_P_xs)), (a_P_ys, .inl (K 0, 12, .inl f_P_ys)), (a_P_cells, .inl (K 0, 12, .inl f_P_cells)), (a_P_lows, .inl (K 0, 12, .inl f_P_lows)), (a_P_highs, .inl (K 0, 12, .inl f_P_highs)), (a_S, .inr (8, [.ref a_T, .ref a_P])), (a_N_sorts, .inl (K 0, 60, .inl f_N_sorts)), (a_N_firsts, .inl (K 0, 60, .inl f_N_firsts)), (a_N_seconds, .inl (K 0, 60, .inl f_N_seconds)), (a_N_struck, .inl (K 1, 60, .inl u4)), (a_L, .inr (1, [.ref a_P, .ref a_N, .ref a_S, .ref a_L_near, .ref a_L_clear, .int r10, .int r33])), (a_P, .inr (4, [.ref a_T, .ref a_P_xs, .ref a_P_ys, .ref a_P_cells, .ref a_P_lows, .ref a_P_highs, .ref a_P_states, .ref a_P_men, .ref a_P_stores, .int (nI v_P_size)])), (a_P_states, .inl (K 0, 12, .inl f_P_states)), (a_N, .inr (3, [.ref a_N_sorts, .ref a_N_firsts, .ref a_N_seconds, .ref a_N_struck, .ref a_N_least, .ref a_N_greatest, .int (nI v_N_size), .int u2, .int u3, .int (nI v_N_quietUpTo)])), (a_N_least, .inl (K 0, 24, .inl u5)), (a_N_greatest, .inl (K 0, 24, .inl u6)), (a_L_near, .inl (K 0, 12, .inl u35))]) [(a_L_clear, .inl (K 0, 12, .inl f_L_clear))] B hl.1 hP hD hS [13] [0, 1, 2, 3, 4, 5, 6, 7, 8, 9, 10, 11, 12, 14, 15, 16, 17, 18, 19, 20, 21, 22, 23, 24] rfl rfl rfl (wJ7_fill_53178_vF12 l D K _ a_L_clear f_L_clear 0) wd_J7_fill_53178 mml_X1_50 rfl rfl ⟨Nat.le_of_ble_eq_true rfl, Nat.le_of_ble_eq_true rfl⟩ (Nat.le_of_ble_eq_true rfl) ⟨Nat.le_of_ble_eq_true rfl, Nat.le_of_ble_eq_true rfl⟩ dX1_draw_61 (fun u H locs hw hP hD hS => ?_)
  obtain ⟨u37, e9⟩ : ∃ y, y = u := ⟨_, rfl⟩
  subst e9
  try dsimp only at hw
  have hP : va_P D vwCl [(a_T, .inr (9, [.ref a_T_heights, .ref a_T_woods, .ref a_T_treesLow, .ref a_T_treesHigh, .ref a_T_worst, .ref a_T_best, .int (nI v_T_width), .int (nI v_T_height), .int v_T_bending])), (a_T_heights, .inl (K 0, 256, .inl f_T_heights)), (a_T_woods, .inl (K 0, 256, .inl f_T_woods)), (a_T_treesLow, .inl (K 0, 4, .inl f_T_treesLow)), (a_T_treesHigh, .inl (K 0, 4, .inl f_T_treesHigh)), (a_T_worst, .inl (K 0, 24, .inl f_T_worst)), (a_T_best, .inl (K 0, 24, .inl f_T_best)), (a_P_xs, .inl (K 0, 12, .inl f_P_xs)), (a_P_ys, .inl (K 0, 12, .inl f_P_ys)), (a_P_cells, .inl (K 0, 12, .inl f_P_cells)), (a_P_lows, .inl (K 0, 12, .inl f_P_lows)), (a_P_highs, .inl (K 0, 12, .inl f_P_highs)), (a_S, .inr (8, [.ref a_T, .ref a_P])), (a_N_sorts, .inl (K 0, 60, .inl f_N_sorts)), (a_N_firsts, .inl (K 0, 60, .inl f_N_firsts)), (a_N_seconds, .inl (K 0, 60, .inl f_N_seconds)), (a_N_struck, .inl (K 1, 60, .inl u4)), (a_L, .inr (1, [.ref a_P, .ref a_N, .ref a_S, .ref a_L_near, .ref a_L_clear, .int r10, .int r33])), (a_P, .inr (4, [.ref a_T, .ref a_P_xs, .ref a_P_ys, .ref a_P_cells, .ref a_P_lows, .ref a_P_highs, .ref a_P_states, .ref a_P_men, .ref a_P_stores, .int (nI v_P_size)])), (a_P_states, .inl (K 0, 12, .inl f_P_states)), (a_N, .inr (3, [.ref a_N_sorts, .ref a_N_firsts, .ref a_N_seconds, .ref a_N_struck, .ref a_N_least, .ref a_N_greatest, .int (nI v_N_size), .int u2, .int u3, .int (nI v_N_quietUpTo)])), (a_N_least, .inl (K 0, 24, .inl u5)), (a_N_greatest, .inl (K 0, 24, .inl u6)), (a_L_near, .inl (K 0, 12, .inl u35)), (a_L_clear, .inl (K 0, 12, .inl u37))] H := hP
  have hD := uDPJ hP hD
  refine lv_aload_n hx hb dX1_draw_64 rfl (lv_at hl 0 rfl) ?_
  refine uGet (ci := 1) (C := RX1) (T := TX1) (N := 7) (v := .int r10) B inlX1 hP 17 rfl rfl 5 rfl mfl_X1_18 rfl rfl dX1_draw_65 ?_
  refine lv_aload_n hx hb dX1_draw_68 rfl (lv_at hl 0 rfl) ?_
  refine lv_pc (q := 69) rfl ?_
  refine uGet (ci := 1) (C := RX1) (T := TX1) (N := 7) (v := .int r33) B inlX1 hP 17 rfl rfl 6 rfl mfl_X1_22 rfl rfl dX1_draw_69 ?_
  refine lv_ior hx hb dX1_draw_72 ?_
  refine lv_istore (lv' := [(6, .int (r10 ||| r33)), (0, .ref a_L), (1, .int (nI x0)), (2, .int (nI x1)), (3, .int x2), (4, .int x3), (5, .int x4)]) hx hb dX1_draw_73 hl (by decide) rfl (fun ls hl => ?_)
  refine lv_iconst (v := 0) hx hb dX1_draw_75 (by decide) ?_
  refine lv_istore (lv' := [(7, .int 0), (6, .int (r10 ||| r33)), (0, .ref a_L), (1, .int (nI x0)), (2, .int (nI x1)), (3, .int x2), (4, .int x3), (5, .int x4)]) hx hb dX1_draw_76 hl (by decide) rfl (fun ls hl => ?_)
  have L42 : ∀ (n9 : Nat) (j38 : Nat) (f39 : Nat → Int32) (f40 : Nat → Int32), (j38 ≤ v_P_size) → v_P_size - j38 < n9 → ∀ (H : Heap) (locs : List Loc) (ls : Array Slot), va_P D vwCl [(a_T, .inr (9, [.ref a_T_heights, .ref a_T_woods, .ref a_T_treesLow, .ref a_T_treesHigh, .ref a_T_worst, .ref a_T_best, .int (nI v_T_width), .int (nI v_T_height), .int v_T_bending])), (a_T_heights, .inl (K 0, 256, .inl f_T_heights)), (a_T_woods, .inl (K 0, 256, .inl f_T_woods)), (a_T_treesLow, .inl (K 0, 4, .inl f_T_treesLow)), (a_T_treesHigh, .inl (K 0, 4, .inl f_T_treesHigh)), (a_T_worst, .inl (K 0, 24, .inl f_T_worst)), (a_T_best, .inl (K 0, 24, .inl f_T_best)), (a_P_xs, .inl (K 0, 12, .inl f_P_xs)), (a_P_ys, .inl (K 0, 12, .inl f_P_ys)), (a_P_cells, .inl (K 0, 12, .inl f_P_cells)), (a_P_lows, .inl (K 0, 12, .inl f_P_lows)), (a_P_highs, .inl (K 0, 12, .inl f_P_highs)), (a_S, .inr (8, [.ref a_T, .ref a_P])), (a_N_sorts, .inl (K 0, 60, .inl f_N_sorts)), (a_N_firsts, .inl (K 0, 60, .inl f_N_firsts)), (a_N_seconds, .inl (K 0, 60, .inl f_N_seconds)), (a_N_struck, .inl (K 1, 60, .inl u4)), (a_L, .inr (1, [.ref a_P, .ref a_N, .ref a_S, .ref a_L_near, .ref a_L_clear, .int r10, .int r33])), (a_P, .inr (4, [.ref a_T, .ref a_P_xs, .ref a_P_ys, .ref a_P_cells, .ref a_P_lows, .ref a_P_highs, .ref a_P_states, .ref a_P_men, .ref a_P_stores, .int (nI v_P_size)])), (a_P_states, .inl (K 0, 12, .inl f_P_states)), (a_N, .inr (3, [.ref a_N_sorts, .ref a_N_firsts, .ref a_N_seconds, .ref a_N_struck, .ref a_N_least, .ref a_N_greatest, .int (nI v_N_size), .int u2, .int u3, .int (nI v_N_quietUpTo)])), (a_N_least, .inl (K 0, 24, .inl u5)), (a_N_greatest, .inl (K 0, 24, .inl u6)), (a_L_near, .inl (K 0, 12, .inl f39)), (a_L_clear, .inl (K 0, 12, .inl f40))] H → va_D A [(a_T, .inr (9, [.ref a_T_heights, .ref a_T_woods, .ref a_T_treesLow, .ref a_T_treesHigh, .ref a_T_worst, .ref a_T_best, .int (nI v_T_width), .int (nI v_T_height), .int v_T_bending])), (a_T_heights, .inl (K 0, 256, .inl f_T_heights)), (a_T_woods, .inl (K 0, 256, .inl f_T_woods)), (a_T_treesLow, .inl (K 0, 4, .inl f_T_treesLow)), (a_T_treesHigh, .inl (K 0, 4, .inl f_T_treesHigh)), (a_T_worst, .inl (K 0, 24, .inl f_T_worst)), (a_T_best, .inl (K 0, 24, .inl f_T_best)), (a_P_xs, .inl (K 0, 12, .inl f_P_xs)), (a_P_ys, .inl (K 0, 12, .inl f_P_ys)), (a_P_cells, .inl (K 0, 12, .inl f_P_cells)), (a_P_lows, .inl (K 0, 12, .inl f_P_lows)), (a_P_highs, .inl (K 0, 12, .inl f_P_highs)), (a_S, .inr (8, [.ref a_T, .ref a_P])), (a_N_sorts, .inl (K 0, 60, .inl f_N_sorts)), (a_N_firsts, .inl (K 0, 60, .inl f_N_firsts)), (a_N_seconds, .inl (K 0, 60, .inl f_N_seconds)), (a_N_struck, .inl (K 1, 60, .inl u4)), (a_L, .inr (1, [.ref a_P, .ref a_N, .ref a_S, .ref a_L_near, .ref a_L_clear, .int r10, .int r33])), (a_P, .inr (4, [.ref a_T, .ref a_P_xs, .ref a_P_ys, .ref a_P_cells, .ref a_P_lows, .ref a_P_highs, .ref a_P_states, .ref a_P_men, .ref a_P_stores, .int (nI v_P_size)])), (a_P_states, .inl (K 0, 12, .inl f_P_states)), (a_N, .inr (3, [.ref a_N_sorts, .ref a_N_firsts, .ref a_N_seconds, .ref a_N_struck, .ref a_N_least, .ref a_N_greatest, .int (nI v_N_size), .int u2, .int u3, .int (nI v_N_quietUpTo)])), (a_N_least, .inl (K 0, 24, .inl u5)), (a_N_greatest, .inl (K 0, 24, .inl u6)), (a_L_near, .inl (K 0, 12, .inl f39)), (a_L_clear, .inl (K 0, 12, .inl f40))] → va_S A s.heap H locs → lv_has ls 9 [(7, .int (nI j38)), (6, .int (r10 ||| r33)), (0, .ref a_L), (1, .int (nI x0)), (2, .int (nI x1)), (3, .int x2), (4, .int x3), (5, .int x4)] → W p l e { frames := 5, cells := 0, slots := 0, locals := 128 } s m ([.ref a_L, .int (nI x0), .int (nI x1), .int x2, .int x3, .int x4] : List Value).toArray below meth c H locs 0 0 (MQ below (uQv D (qwX1_draw a_L v_L_found v_L_supposed a_T v_T_width v_T_height v_T_bending a_T_heights f_T_heights a_T_woods f_T_woods a_T_treesLow f_T_treesLow a_T_treesHigh f_T_treesHigh a_T_worst f_T_worst a_T_best f_T_best a_P v_P_size a_P_xs f_P_xs a_P_ys f_P_ys a_P_cells f_P_cells a_P_lows f_P_lows a_P_highs f_P_highs a_P_states f_P_states a_S a_N v_N_size v_N_drawnFor v_N_agree v_N_quietUpTo a_N_sorts f_N_sorts a_N_firsts f_N_firsts a_N_seconds f_N_seconds a_N_struck f_N_struck a_N_least f_N_least a_N_greatest f_N_greatest a_L_near f_L_near a_L_clear f_L_clear a_P_men a_P_stores x0 x1 x2 x3 x4) (vwX1_draw K a_L v_L_found v_L_supposed a_T v_T_width v_T_height v_T_bending a_T_heights f_T_heights a_T_woods f_T_woods a_T_treesLow f_T_treesLow a_T_treesHigh f_T_treesHigh a_T_worst f_T_worst a_T_best f_T_best a_P v_P_size a_P_xs f_P_xs a_P_ys f_P_ys a_P_cells f_P_cells a_P_lows f_P_lows a_P_highs f_P_highs a_P_states f_P_states a_S a_N v_N_size v_N_drawnFor v_N_agree v_N_quietUpTo a_N_sorts f_N_sorts a_N_firsts f_N_firsts a_N_seconds f_N_seconds a_N_struck f_N_struck a_N_least f_N_least a_N_greatest f_N_greatest a_L_near f_L_near a_L_clear f_L_clear a_P_men a_P_stores x0 x1 x2 x3 x4) A) ([.ref a_L, .int (nI x0), .int (nI x1), .int x2, .int x3, .int x4] : List Value).toArray s 0 0 A) (F0 m 78 ls []) := by
    intro n9
    induction n9 with
    | zero => intros; exact absurd ‹_ < 0› (Nat.not_lt_zero _)
    | succ n78_ ih78 =>
      intro j38 f39 f40 hj38 hm78 H locs ls hP hD hS hl
      refine lv_iload hx hb dX1_draw_78 (lv_at hl 0 rfl) ?_
      refine lv_pc (q := 80) rfl ?_
      refine lv_aload_n hx hb dX1_draw_80 rfl (lv_at hl 2 rfl) ?_
      refine uGet (ci := 1) (C := RX1) (T := TX1) (N := 7) (v := .ref a_P) B inlX1 hP 17 rfl rfl 0 rfl mfl_X1_25 rfl rfl dX1_draw_81 ?_
      refine uGet (ci := 4) (C := RX4) (T := TX4) (N := 10) (v := .int (nI v_P_size)) B inlX4 hP 18 rfl rfl 9 rfl mfl_X1_56 rfl rfl dX1_draw_84 ?_
      refine lv_icmp_ge (tgt := 160) hx hb dX1_draw_87 (by decide) (fun c43 => ?_) (fun c43 => ?_)
      · have k_43 : v_P_size ≤ j38 := (nI_leI (a := v_P_size) (b := j38) (by omega) (by omega)).mp c43
        exact uRv (r10, r33, u2, u3, u4, u5, u6, f39, f40) B ⟨w7, w8⟩ (uSub hP [17, 0, 1, 2, 3, 4, 5, 6, 18, 7, 8, 9, 10, 11, 19, 12, 20, 13, 14, 15, 16, 21, 22, 23, 24] rfl) (hD.sub [17, 0, 1, 2, 3, 4, 5, 6, 18, 7, 8, 9, 10, 11, 19, 12, 20, 13, 14, 15, 16, 21, 22, 23, 24] rfl rfl) hS dX1_draw_160
      have k_43 : ¬ v_P_size ≤ j38 := fun h9 => c43 ((nI_leI (a := v_P_size) (b := j38) (by omega) (by omega)).mpr h9)
      refine lv_iload hx hb dX1_draw_90 (lv_at hl 0 rfl) ?_
      refine lv_iconst (v := 1) hx hb dX1_draw_92 (by decide) ?_
      refine lv_pc (q := 93) rfl ?_
      refine lv_iadd hx hb dX1_draw_93 ?_
      refine lv_fixi (y := (nI (j38 + 1))) (by rw [show (1 : Int32) = nI 1 from rfl, nI_add]) ?_
      refine lv_istore (lv' := [(8, .int (nI (j38 + 1))), (7, .int (nI j38)), (6, .int (r10 ||| r33)), (0, .ref a_L), (1, .int (nI x0)), (2, .int (nI x1)), (3, .int x2), (4, .int x3), (5, .int x4)]) hx hb dX1_draw_94 hl (by decide) rfl (fun ls hl => ?_)
      have L48 : ∀ (n9 : Nat) (j44 : Nat) (f45 : Nat → Int32) (f46 : Nat → Int32), (j44 ≤ v_P_size) → v_P_size - j44 < n9 → ∀ (H : Heap) (locs : List Loc) (ls : Array Slot), va_P D vwCl [(a_T, .inr (9, [.ref a_T_heights, .ref a_T_woods, .ref a_T_treesLow, .ref a_T_treesHigh, .ref a_T_worst, .ref a_T_best, .int (nI v_T_width), .int (nI v_T_height), .int v_T_bending])), (a_T_heights, .inl (K 0, 256, .inl f_T_heights)), (a_T_woods, .inl (K 0, 256, .inl f_T_woods)), (a_T_treesLow, .inl (K 0, 4, .inl f_T_treesLow)), (a_T_treesHigh, .inl (K 0, 4, .inl f_T_treesHigh)), (a_T_worst, .inl (K 0, 24, .inl f_T_worst)), (a_T_best, .inl (K 0, 24, .inl f_T_best)), (a_P_xs, .inl (K 0, 12, .inl f_P_xs)), (a_P_ys, .inl (K 0, 12, .inl f_P_ys)), (a_P_cells, .inl (K 0, 12, .inl f_P_cells)), (a_P_lows, .inl (K 0, 12, .inl f_P_lows)), (a_P_highs, .inl (K 0, 12, .inl f_P_highs)), (a_S, .inr (8, [.ref a_T, .ref a_P])), (a_N_sorts, .inl (K 0, 60, .inl f_N_sorts)), (a_N_firsts, .inl (K 0, 60, .inl f_N_firsts)), (a_N_seconds, .inl (K 0, 60, .inl f_N_seconds)), (a_N_struck, .inl (K 1, 60, .inl u4)), (a_L, .inr (1, [.ref a_P, .ref a_N, .ref a_S, .ref a_L_near, .ref a_L_clear, .int r10, .int r33])), (a_P, .inr (4, [.ref a_T, .ref a_P_xs, .ref a_P_ys, .ref a_P_cells, .ref a_P_lows, .ref a_P_highs, .ref a_P_states, .ref a_P_men, .ref a_P_stores, .int (nI v_P_size)])), (a_P_states, .inl (K 0, 12, .inl f_P_states)), (a_N, .inr (3, [.ref a_N_sorts, .ref a_N_firsts, .ref a_N_seconds, .ref a_N_struck, .ref a_N_least, .ref a_N_greatest, .int (nI v_N_size), .int u2, .int u3, .int (nI v_N_quietUpTo)])), (a_N_least, .inl (K 0, 24, .inl u5)), (a_N_greatest, .inl (K 0, 24, .inl u6)), (a_L_near, .inl (K 0, 12, .inl f45)), (a_L_clear, .inl (K 0, 12, .inl f46))] H → va_D A [(a_T, .inr (9, [.ref a_T_heights, .ref a_T_woods, .ref a_T_treesLow, .ref a_T_treesHigh, .ref a_T_worst, .ref a_T_best, .int (nI v_T_width), .int (nI v_T_height), .int v_T_bending])), (a_T_heights, .inl (K 0, 256, .inl f_T_heights)), (a_T_woods, .inl (K 0, 256, .inl f_T_woods)), (a_T_treesLow, .inl (K 0, 4, .inl f_T_treesLow)), (a_T_treesHigh, .inl (K 0, 4, .inl f_T_treesHigh)), (a_T_worst, .inl (K 0, 24, .inl f_T_worst)), (a_T_best, .inl (K 0, 24, .inl f_T_best)), (a_P_xs, .inl (K 0, 12, .inl f_P_xs)), (a_P_ys, .inl (K 0, 12, .inl f_P_ys)), (a_P_cells, .inl (K 0, 12, .inl f_P_cells)), (a_P_lows, .inl (K 0, 12, .inl f_P_lows)), (a_P_highs, .inl (K 0, 12, .inl f_P_highs)), (a_S, .inr (8, [.ref a_T, .ref a_P])), (a_N_sorts, .inl (K 0, 60, .inl f_N_sorts)), (a_N_firsts, .inl (K 0, 60, .inl f_N_firsts)), (a_N_seconds, .inl (K 0, 60, .inl f_N_seconds)), (a_N_struck, .inl (K 1, 60, .inl u4)), (a_L, .inr (1, [.ref a_P, .ref a_N, .ref a_S, .ref a_L_near, .ref a_L_clear, .int r10, .int r33])), (a_P, .inr (4, [.ref a_T, .ref a_P_xs, .ref a_P_ys, .ref a_P_cells, .ref a_P_lows, .ref a_P_highs, .ref a_P_states, .ref a_P_men, .ref a_P_stores, .int (nI v_P_size)])), (a_P_states, .inl (K 0, 12, .inl f_P_states)), (a_N, .inr (3, [.ref a_N_sorts, .ref a_N_firsts, .ref a_N_seconds, .ref a_N_struck, .ref a_N_least, .ref a_N_greatest, .int (nI v_N_size), .int u2, .int u3, .int (nI v_N_quietUpTo)])), (a_N_least, .inl (K 0, 24, .inl u5)), (a_N_greatest, .inl (K 0, 24, .inl u6)), (a_L_near, .inl (K 0, 12, .inl f45)), (a_L_clear, .inl (K 0, 12, .inl f46))] → va_S A s.heap H locs → lv_has ls 9 [(8, .int (nI j44)), (7, .int (nI j38)), (6, .int (r10 ||| r33)), (0, .ref a_L), (1, .int (nI x0)), (2, .int (nI x1)), (3, .int x2), (4, .int x3), (5, .int x4)] → W p l e { frames := 5, cells := 0, slots := 0, locals := 128 } s m ([.ref a_L, .int (nI x0), .int (nI x1), .int x2, .int x3, .int x4] : List Value).toArray below meth c H locs 0 0 (MQ below (uQv D (qwX1_draw a_L v_L_found v_L_supposed a_T v_T_width v_T_height v_T_bending a_T_heights f_T_heights a_T_woods f_T_woods a_T_treesLow f_T_treesLow a_T_treesHigh f_T_treesHigh a_T_worst f_T_worst a_T_best f_T_best a_P v_P_size a_P_xs f_P_xs a_P_ys f_P_ys a_P_cells f_P_cells a_P_lows f_P_lows a_P_highs f_P_highs a_P_states f_P_states a_S a_N v_N_size v_N_drawnFor v_N_agree v_N_quietUpTo a_N_sorts f_N_sorts a_N_firsts f_N_firsts a_N_seconds f_N_seconds a_N_struck f_N_struck a_N_least f_N_least a_N_greatest f_N_greatest a_L_near f_L_near a_L_clear f_L_clear a_P_men a_P_stores x0 x1 x2 x3 x4) (vwX1_draw K a_L v_L_found v_L_supposed a_T v_T_width v_T_height v_T_bending a_T_heights f_T_heights a_T_woods f_T_woods a_T_treesLow f_T_treesLow a_T_treesHigh f_T_treesHigh a_T_worst f_T_worst a_T_best f_T_best a_P v_P_size a_P_xs f_P_xs a_P_ys f_P_ys a_P_cells f_P_cells a_P_lows f_P_lows a_P_highs f_P_highs a_P_states f_P_states a_S a_N v_N_size v_N_drawnFor v_N_agree v_N_quietUpTo a_N_sorts f_N_sorts a_N_firsts f_N_firsts a_N_seconds f_N_seconds a_N_struck f_N_struck a_N_least f_N_least a_N_greatest f_N_greatest a_L_near f_L_near a_L_clear f_L_clear a_P_men a_P_stores x0 x1 x2 x3 x4) A) ([.ref a_L, .int (nI x0), .int (nI x1), .int x2, .int x3, .int x4] : List Value).toArray s 0 0 A) (F0 m 96 ls []) := by
        intro n9
        induction n9 with
        | zero => intros; exact absurd ‹_ < 0› (Nat.not_lt_zero _)
        | succ n96_ ih96 =>
          intro j44 f45 f46 hj44 hm96 H locs ls hP hD hS hl
          refine lv_iload hx hb dX1_draw_96 (lv_at hl 0 rfl) ?_
          refine lv_aload_n hx hb dX1_draw_98 rfl (lv_at hl 3 rfl) ?_
          refine uGet (ci := 1) (C := RX1) (T := TX1) (N := 7) (v := .ref a_P) B inlX1 hP 17 rfl rfl 0 rfl mfl_X1_25 rfl rfl dX1_draw_99 ?_
          refine uGet (ci := 4) (C := RX4) (T := TX4) (N := 10) (v := .int (nI v_P_size)) B inlX4 hP 18 rfl rfl 9 rfl mfl_X1_56 rfl rfl dX1_draw_102 ?_
          refine lv_pc (q := 105) rfl ?_
          refine lv_icmp_ge (tgt := 154) hx hb dX1_draw_105 (by decide) (fun c49 => ?_) (fun c49 => ?_)
          · have k_49 : v_P_size ≤ j44 := (nI_leI (a := v_P_size) (b := j44) (by omega) (by omega)).mp c49
            refine lv_iinc (v := nI (j38 + 1)) (lv' := [(7, .int (nI (j38 + 1))), (8, .int (nI j44)), (6, .int (r10 ||| r33)), (0, .ref a_L), (1, .int (nI x0)), (2, .int (nI x1)), (3, .int x2), (4, .int x3), (5, .int x4)]) hx hb dX1_draw_154 hl (k := 1) rfl (nI_1 _) (by decide) rfl (fun ls hl => ?_)
            refine lv_goto (tgt := 78) hx hb dX1_draw_157 (by decide) ?_
            refine lv_pc (q := 78) rfl ?_
            refine W.widen (k := 0) (n := 0) (Nat.le_of_ble_eq_true rfl) (Nat.le_of_ble_eq_true rfl) ?_
            exact ih78 (j38 + 1) f45 f46 (by omega) (by omega) _ _ _ (uSub hP [0, 1, 2, 3, 4, 5, 6, 7, 8, 9, 10, 11, 12, 13, 14, 15, 16, 17, 18, 19, 20, 21, 22, 23, 24] rfl) (hD.sub [0, 1, 2, 3, 4, 5, 6, 7, 8, 9, 10, 11, 12, 13, 14, 15, 16, 17, 18, 19, 20, 21, 22, 23, 24] rfl rfl) hS (lv_sub hl [0, 2, 3, 4, 5, 6, 7, 8] rfl)
          have k_49 : ¬ v_P_size ≤ j44 := fun h9 => c49 ((nI_leI (a := v_P_size) (b := j44) (by omega) (by omega)).mpr h9)
          refine lv_iload hx hb dX1_draw_108 (lv_at hl 2 rfl) ?_
          refine lv_iload hx hb dX1_draw_110 (lv_at hl 1 rfl) ?_
          refine lv_ishr hx hb dX1_draw_112 ?_
          refine lv_iload hx hb dX1_draw_113 (lv_at hl 2 rfl) ?_
          refine lv_iload hx hb dX1_draw_115 (lv_at hl 0 rfl) ?_
          refine lv_pc (q := 117) rfl ?_
          refine lv_ishr hx hb dX1_draw_117 ?_
          refine lv_iand hx hb dX1_draw_118 ?_
          refine lv_iconst (v := 1) hx hb dX1_draw_119 (by decide) ?_
          refine lv_iand hx hb dX1_draw_120 ?_
          refine lv_iconst (v := 1) hx hb dX1_draw_121 (by decide) ?_
          refine lv_icmp_ne (tgt := 148) hx hb dX1_draw_122 (by decide) (fun c50 => ?_) (fun c50 => ?_)
          · refine lv_pc (q := 148) rfl ?_
            refine lv_iinc (v := nI (j44 + 1)) (lv' := [(8, .int (nI (j44 + 1))), (7, .int (nI j38)), (6, .int (r10 ||| r33)), (0, .ref a_L), (1, .int (nI x0)), (2, .int (nI x1)), (3, .int x2), (4, .int x3), (5, .int x4)]) hx hb dX1_draw_148 hl (k := 0) rfl (nI_1 _) (by decide) rfl (fun ls hl => ?_)
            refine lv_goto (tgt := 96) hx hb dX1_draw_151 (by decide) ?_
            refine lv_pc (q := 96) rfl ?_
            refine W.widen (k := 0) (n := 0) (Nat.le_of_ble_eq_true rfl) (Nat.le_of_ble_eq_true rfl) ?_
            exact ih96 (j44 + 1) f45 f46 (by omega) (by omega) _ _ _ (uSub hP [0, 1, 2, 3, 4, 5, 6, 7, 8, 9, 10, 11, 12, 13, 14, 15, 16, 17, 18, 19, 20, 21, 22, 23, 24] rfl) (hD.sub [0, 1, 2, 3, 4, 5, 6, 7, 8, 9, 10, 11, 12, 13, 14, 15, 16, 17, 18, 19, 20, 21, 22, 23, 24] rfl rfl) hS (lv_sub hl [0, 1, 2, 3, 4, 5, 6, 7, 8] rfl)
          refine lv_pc (q := 125) rfl ?_
          refine lv_aload_n hx hb dX1_draw_125 rfl (lv_at hl 3 rfl) ?_
          refine lv_iload hx hb dX1_draw_126 (lv_at hl 1 rfl) ?_
          refine lv_iload hx hb dX1_draw_128 (lv_at hl 0 rfl) ?_
          refine lv_aload_n hx hb dX1_draw_130 rfl (lv_at hl 3 rfl) ?_
          refine uGet (ci := 1) (C := RX1) (T := TX1) (N := 7) (v := .ref a_S) B inlX1 hP 17 rfl rfl 2 rfl mfl_X1_33 rfl rfl dX1_draw_131 ?_
          refine lv_iload hx hb dX1_draw_134 (lv_at hl 1 rfl) ?_
          refine lv_pc (q := 136) rfl ?_
          refine lv_iload hx hb dX1_draw_136 (lv_at hl 0 rfl) ?_
          refine lv_iload_n hx hb dX1_draw_138 rfl (lv_at hl 4 rfl) ?_
          refine lv_iload_n hx hb dX1_draw_139 rfl (lv_at hl 5 rfl) ?_
          refine uVi (As := [.int (nI j38), .int (nI j44), .int (nI x0), .int (nI x1)]) (rest := [.int (nI j44), .int (nI j38), .ref a_L]) (wr := [(a_N_sorts, .inl (K 0, 60, .inl f_N_sorts)), (a_N_firsts, .inl (K 0, 60, .inl f_N_firsts)), (a_N_seconds, .inl (K 0, 60, .inl f_N_seconds)), (a_N_struck, .inl (K 1, 60, .inl u4)), (a_L, .inr (1, [.ref a_P, .ref a_N, .ref a_S, .ref a_L_near, .ref a_L_clear, .int r10, .int r33])), (a_P_states, .inl (K 0, 12, .inl f_P_states)), (a_N, .inr (3, [.ref a_N_sorts, .ref a_N_firsts, .ref a_N_seconds, .ref a_N_struck, .ref a_N_least, .ref a_N_greatest, .int (nI v_N_size), .int u2, .int u3, .int (nI v_N_quietUpTo)])), (a_N_least, .inl (K 0, 24, .inl u5)), (a_N_greatest, .inl (K 0, 24, .inl u6)), (a_L_near, .inl (K 0, 12, .inl f45)), (a_L_clear, .inl (K 0, 12, .inl f46))]) [(a_S, .inr (8, [.ref a_T, .ref a_P])), (a_T, .inr (9, [.ref a_T_heights, .ref a_T_woods, .ref a_T_treesLow, .ref a_T_treesHigh, .ref a_T_worst, .ref a_T_best, .int (nI v_T_width), .int (nI v_T_height), .int v_T_bending])), (a_T_heights, .inl (K 0, 256, .inl f_T_heights)), (a_T_woods, .inl (K 0, 256, .inl f_T_woods)), (a_T_treesLow, .inl (K 0, 4, .inl f_T_treesLow)), (a_T_treesHigh, .inl (K 0, 4, .inl f_T_treesHigh)), (a_T_worst, .inl (K 0, 24, .inl f_T_worst)), (a_T_best, .inl (K 0, 24, .inl f_T_best)), (a_P, .inr (4, [.ref a_T, .ref a_P_xs, .ref a_P_ys, .ref a_P_cells, .ref a_P_lows, .ref a_P_highs, .ref a_P_states, .ref a_P_men, .ref a_P_stores, .int (nI v_P_size)])), (a_P_xs, .inl (K 0, 12, .inl f_P_xs)), (a_P_ys, .inl (K 0, 12, .inl f_P_ys)), (a_P_cells, .inl (K 0, 12, .inl f_P_cells)), (a_P_lows, .inl (K 0, 12, .inl f_P_lows)), (a_P_highs, .inl (K 0, 12, .inl f_P_highs))] B hl.1 hP hD hS [12, 0, 1, 2, 3, 4, 5, 6, 18, 7, 8, 9, 10, 11] [13, 14, 15, 16, 17, 19, 20, 21, 22, 23, 24] rfl rfl rfl (wX8_linkOf l D K _ a_S a_T v_T_width v_T_height v_T_bending a_T_heights f_T_heights a_T_woods f_T_woods a_T_treesLow f_T_treesLow a_T_treesHigh f_T_treesHigh a_T_worst f_T_worst a_T_best f_T_best a_P v_P_size a_P_xs f_P_xs a_P_ys f_P_ys a_P_cells f_P_cells a_P_lows f_P_lows a_P_highs f_P_highs a_P_states a_P_men a_P_stores j38 j44 x0 x1 (by omega) (by omega) (by omega) (by omega) r_T_woods (by omega) r_P_xs r_P_ys r_P_cells (by omega) (by omega) (by omega) (by omega)) wd_X8_linkOf mml_X1_59 rfl rfl rfl rfl ⟨Nat.le_of_ble_eq_true rfl, Nat.le_of_ble_eq_true rfl⟩ (Nat.le_of_ble_eq_true rfl) ⟨Nat.le_of_ble_eq_true rfl, Nat.le_of_ble_eq_true rfl⟩ dX1_draw_140 (fun r51 u H locs hw hP hD hS => ?_)
          try dsimp only at hw
          have hP : va_P D vwCl [(a_N_sorts, .inl (K 0, 60, .inl f_N_sorts)), (a_N_firsts, .inl (K 0, 60, .inl f_N_firsts)), (a_N_seconds, .inl (K 0, 60, .inl f_N_seconds)), (a_N_struck, .inl (K 1, 60, .inl u4)), (a_L, .inr (1, [.ref a_P, .ref a_N, .ref a_S, .ref a_L_near, .ref a_L_clear, .int r10, .int r33])), (a_P_states, .inl (K 0, 12, .inl f_P_states)), (a_N, .inr (3, [.ref a_N_sorts, .ref a_N_firsts, .ref a_N_seconds, .ref a_N_struck, .ref a_N_least, .ref a_N_greatest, .int (nI v_N_size), .int u2, .int u3, .int (nI v_N_quietUpTo)])), (a_N_least, .inl (K 0, 24, .inl u5)), (a_N_greatest, .inl (K 0, 24, .inl u6)), (a_L_near, .inl (K 0, 12, .inl f45)), (a_L_clear, .inl (K 0, 12, .inl f46)), (a_S, .inr (8, [.ref a_T, .ref a_P])), (a_T, .inr (9, [.ref a_T_heights, .ref a_T_woods, .ref a_T_treesLow, .ref a_T_treesHigh, .ref a_T_worst, .ref a_T_best, .int (nI v_T_width), .int (nI v_T_height), .int v_T_bending])), (a_T_heights, .inl (K 0, 256, .inl f_T_heights)), (a_T_woods, .inl (K 0, 256, .inl f_T_woods)), (a_T_treesLow, .inl (K 0, 4, .inl f_T_treesLow)), (a_T_treesHigh, .inl (K 0, 4, .inl f_T_treesHigh)), (a_T_worst, .inl (K 0, 24, .inl f_T_worst)), (a_T_best, .inl (K 0, 24, .inl f_T_best)), (a_P, .inr (4, [.ref a_T, .ref a_P_xs, .ref a_P_ys, .ref a_P_cells, .ref a_P_lows, .ref a_P_highs, .ref a_P_states, .ref a_P_men, .ref a_P_stores, .int (nI v_P_size)])), (a_P_xs, .inl (K 0, 12, .inl f_P_xs)), (a_P_ys, .inl (K 0, 12, .inl f_P_ys)), (a_P_cells, .inl (K 0, 12, .inl f_P_cells)), (a_P_lows, .inl (K 0, 12, .inl f_P_lows)), (a_P_highs, .inl (K 0, 12, .inl f_P_highs))] H := hP
          have hD := uDPJ hP hD
          refine lv_iload hx hb dX1_draw_143 (lv_at hl 7 rfl) ?_
          refine uVv (As := [.int (nI j38), .int (nI j44), .int r51, .int x3]) (rest := []) (wr := [(a_N_sorts, .inl (K 0, 60, .inl f_N_sorts)), (a_N_firsts, .inl (K 0, 60, .inl f_N_firsts)), (a_N_seconds, .inl (K 0, 60, .inl f_N_seconds)), (a_N_struck, .inl (K 1, 60, .inl u4)), (a_P_states, .inl (K 0, 12, .inl f_P_states)), (a_N, .inr (3, [.ref a_N_sorts, .ref a_N_firsts, .ref a_N_seconds, .ref a_N_struck, .ref a_N_least, .ref a_N_greatest, .int (nI v_N_size), .int u2, .int u3, .int (nI v_N_quietUpTo)])), (a_N_least, .inl (K 0, 24, .inl u5)), (a_N_greatest, .inl (K 0, 24, .inl u6)), (a_S, .inr (8, [.ref a_T, .ref a_P])), (a_T, .inr (9, [.ref a_T_heights, .ref a_T_woods, .ref a_T_treesLow, .ref a_T_treesHigh, .ref a_T_worst, .ref a_T_best, .int (nI v_T_width), .int (nI v_T_height), .int v_T_bending])), (a_T_heights, .inl (K 0, 256, .inl f_T_heights)), (a_T_woods, .inl (K 0, 256, .inl f_T_woods)), (a_T_treesLow, .inl (K 0, 4, .inl f_T_treesLow)), (a_T_treesHigh, .inl (K 0, 4, .inl f_T_treesHigh)), (a_T_worst, .inl (K 0, 24, .inl f_T_worst)), (a_T_best, .inl (K 0, 24, .inl f_T_best)), (a_P, .inr (4, [.ref a_T, .ref a_P_xs, .ref a_P_ys, .ref a_P_cells, .ref a_P_lows, .ref a_P_highs, .ref a_P_states, .ref a_P_men, .ref a_P_stores, .int (nI v_P_size)])), (a_P_xs, .inl (K 0, 12, .inl f_P_xs)), (a_P_ys, .inl (K 0, 12, .inl f_P_ys)), (a_P_cells, .inl (K 0, 12, .inl f_P_cells)), (a_P_lows, .inl (K 0, 12, .inl f_P_lows)), (a_P_highs, .inl (K 0, 12, .inl f_P_highs))]) [(a_L, .inr (1, [.ref a_P, .ref a_N, .ref a_S, .ref a_L_near, .ref a_L_clear, .int r10, .int r33])), (a_L_near, .inl (K 0, 12, .inl f45)), (a_L_clear, .inl (K 0, 12, .inl f46))] B hl.1 hP hD hS [4, 9, 10] [0, 1, 2, 3, 5, 6, 7, 8, 11, 12, 13, 14, 15, 16, 17, 18, 19, 20, 21, 22, 23, 24] rfl rfl rfl (wX1_tie l D K _ a_L r10 r33 a_L_near f45 a_L_clear f46 a_P a_N a_S j38 j44 r51 x3 (by omega) (by omega)) wd_X1_tie mml_X1_65 rfl rfl rfl rfl ⟨Nat.le_of_ble_eq_true rfl, Nat.le_of_ble_eq_true rfl⟩ (Nat.le_of_ble_eq_true rfl) ⟨Nat.le_of_ble_eq_true rfl, Nat.le_of_ble_eq_true rfl⟩ dX1_draw_145 (fun u H locs hw hP hD hS => ?_)
          obtain ⟨u53, u54⟩ := u
          try dsimp only at hw
          have hP : va_P D vwCl [(a_N_sorts, .inl (K 0, 60, .inl f_N_sorts)), (a_N_firsts, .inl (K 0, 60, .inl f_N_firsts)), (a_N_seconds, .inl (K 0, 60, .inl f_N_seconds)), (a_N_struck, .inl (K 1, 60, .inl u4)), (a_P_states, .inl (K 0, 12, .inl f_P_states)), (a_N, .inr (3, [.ref a_N_sorts, .ref a_N_firsts, .ref a_N_seconds, .ref a_N_struck, .ref a_N_least, .ref a_N_greatest, .int (nI v_N_size), .int u2, .int u3, .int (nI v_N_quietUpTo)])), (a_N_least, .inl (K 0, 24, .inl u5)), (a_N_greatest, .inl (K 0, 24, .inl u6)), (a_S, .inr (8, [.ref a_T, .ref a_P])), (a_T, .inr (9, [.ref a_T_heights, .ref a_T_woods, .ref a_T_treesLow, .ref a_T_treesHigh, .ref a_T_worst, .ref a_T_best, .int (nI v_T_width), .int (nI v_T_height), .int v_T_bending])), (a_T_heights, .inl (K 0, 256, .inl f_T_heights)), (a_T_woods, .inl (K 0, 256, .inl f_T_woods)), (a_T_treesLow, .inl (K 0, 4, .inl f_T_treesLow)), (a_T_treesHigh, .inl (K 0, 4, .inl f_T_treesHigh)), (a_T_worst, .inl (K 0, 24, .inl f_T_worst)), (a_T_best, .inl (K 0, 24, .inl f_T_best)), (a_P, .inr (4, [.ref a_T, .ref a_P_xs, .ref a_P_ys, .ref a_P_cells, .ref a_P_lows, .ref a_P_highs, .ref a_P_states, .ref a_P_men, .ref a_P_stores, .int (nI v_P_size)])), (a_P_xs, .inl (K 0, 12, .inl f_P_xs)), (a_P_ys, .inl (K 0, 12, .inl f_P_ys)), (a_P_cells, .inl (K 0, 12, .inl f_P_cells)), (a_P_lows, .inl (K 0, 12, .inl f_P_lows)), (a_P_highs, .inl (K 0, 12, .inl f_P_highs)), (a_L, .inr (1, [.ref a_P, .ref a_N, .ref a_S, .ref a_L_near, .ref a_L_clear, .int r10, .int r33])), (a_L_near, .inl (K 0, 12, .inl u53)), (a_L_clear, .inl (K 0, 12, .inl u54))] H := hP
          have hD := uDPJ hP hD
          refine lv_pc (q := 148) rfl ?_
          refine lv_iinc (v := nI (j44 + 1)) (lv' := [(8, .int (nI (j44 + 1))), (7, .int (nI j38)), (6, .int (r10 ||| r33)), (0, .ref a_L), (1, .int (nI x0)), (2, .int (nI x1)), (3, .int x2), (4, .int x3), (5, .int x4)]) hx hb dX1_draw_148 hl (k := 0) rfl (nI_1 _) (by decide) rfl (fun ls hl => ?_)
          refine lv_goto (tgt := 96) hx hb dX1_draw_151 (by decide) ?_
          refine lv_pc (q := 96) rfl ?_
          refine W.widen (k := 0) (n := 0) (Nat.le_of_ble_eq_true rfl) (Nat.le_of_ble_eq_true rfl) ?_
          exact ih96 (j44 + 1) u53 u54 (by omega) (by omega) _ _ _ (uSub hP [9, 10, 11, 12, 13, 14, 15, 17, 18, 19, 20, 21, 8, 0, 1, 2, 3, 22, 16, 4, 5, 6, 7, 23, 24] rfl) (hD.sub [9, 10, 11, 12, 13, 14, 15, 17, 18, 19, 20, 21, 8, 0, 1, 2, 3, 22, 16, 4, 5, 6, 7, 23, 24] rfl rfl) hS (lv_sub hl [0, 1, 2, 3, 4, 5, 6, 7, 8] rfl)
      refine lv_pc (q := 96) rfl ?_
      refine W.widen (k := 0) (n := 0) (Nat.le_of_ble_eq_true rfl) (Nat.le_of_ble_eq_true rfl) ?_
      exact L48 ((v_P_size - (j38 + 1)) + 1) (j38 + 1) f39 f40 (by omega) (Nat.lt_succ_self _) _ _ _ hP hD hS hl
  refine lv_pc (q := 78) rfl ?_
  refine W.widen (k := 0) (n := 0) (Nat.le_of_ble_eq_true rfl) (Nat.le_of_ble_eq_true rfl) ?_
  exact L42 ((v_P_size - 0) + 1) 0 u35 u37 (by omega) (Nat.lt_succ_self _) _ _ _ hP hD hS hl
def qwX1_reach (a_L : Nat) (v_L_found : Int32) (v_L_supposed : Int32) (a_L_near : Nat) (f_L_near : Nat → Int32) (a_P : Nat) (a_N : Nat) (a_S : Nat) (a_L_clear : Nat) (x0 : Int32) (x1 : Int32) : Int32 → (Unit) → Prop := (fun (r : Int32) (u : Unit) => True)
def vwX1_reach (K : Nat → ClassId) (a_L : Nat) (v_L_found : Int32) (v_L_supposed : Int32) (a_L_near : Nat) (f_L_near : Nat → Int32) (a_P : Nat) (a_N : Nat) (a_S : Nat) (a_L_clear : Nat) (x0 : Int32) (x1 : Int32) : (Unit) → va_W := (fun (u : Unit) => [(a_L, .inr (1, [.ref a_P, .ref a_N, .ref a_S, .ref a_L_near, .ref a_L_clear, .int v_L_found, .int v_L_supposed])), (a_L_near, .inl (K 0, 12, .inl f_L_near))])
set_option maxHeartbeats 4000000 in
set_option maxRecDepth 100000 in
theorem wX1_reach (l : Launch) (D : va_G) (K : Nat → ClassId) (sz : Nat) (a_L : Nat) (v_L_found : Int32) (v_L_supposed : Int32) (a_L_near : Nat) (f_L_near : Nat → Int32) (a_P : Nat) (a_N : Nat) (a_S : Nat) (a_L_clear : Nat) (x0 : Int32) (x1 : Int32) : uMi l yX1_reach cX1_reach 8 (some .int) { frames := 1, cells := 0, slots := 0, locals := 21 } [.ref a_L, .int x0, .int x1] D K [(a_L, .inr (1, [.ref a_P, .ref a_N, .ref a_S, .ref a_L_near, .ref a_L_clear, .int v_L_found, .int v_L_supposed])), (a_L_near, .inl (K 0, 12, .inl f_L_near))] sz (qwX1_reach a_L v_L_found v_L_supposed a_L_near f_L_near a_P a_N a_S a_L_clear x0 x1) (vwX1_reach K a_L v_L_found v_L_supposed a_L_near f_L_near a_P a_N a_S a_L_clear x0 x1) := by
  refine uMet (Qc := uQi D (qwX1_reach a_L v_L_found v_L_supposed a_L_near f_L_near a_P a_N a_S a_L_clear x0 x1) (vwX1_reach K a_L v_L_found v_L_supposed a_L_near f_L_near a_P a_N a_S a_L_clear x0 x1)) (ret := (some .int)) (by decide) (Nat.le_of_ble_eq_true rfl) ?_
  intro p e s m below meth c A ls hAe hsz B hP hD hS hl
  have hx := B.1
  have hb := B.2.1
  have hl : lv_has ls 8 [(0, .ref a_L), (1, .int x0), (2, .int x1)] := hl
  refine lv_iload_n hx hb dX1_reach_0 rfl (lv_at hl 1 rfl) ?_
  refine lv_istore_n (lv' := [(3, .int x0), (0, .ref a_L), (1, .int x0), (2, .int x1)]) hx hb dX1_reach_1 rfl hl (by decide) rfl (fun ls hl => ?_)
  refine lv_iload_n hx hb dX1_reach_2 rfl (lv_at hl 2 rfl) ?_
  refine lv_istore (lv' := [(4, .int x0), (3, .int x0), (0, .ref a_L), (1, .int x0), (2, .int x1)]) hx hb dX1_reach_3 hl (by decide) rfl (fun ls hl => ?_)
  refine lv_iconst (v := 0) hx hb dX1_reach_5 (by decide) ?_
  refine lv_pc (q := 6) rfl ?_
  refine lv_istore (lv' := [(5, .int 0), (4, .int x0), (3, .int x0), (0, .ref a_L), (1, .int x0), (2, .int x1)]) hx hb dX1_reach_6 hl (by decide) rfl (fun ls hl => ?_)
  have L5 : ∀ (n9 : Nat) (j1 : Nat) (y2 : Int32) (y3 : Int32), (j1 ≤ 12) → 12 - j1 < n9 → ∀ (H : Heap) (locs : List Loc) (ls : Array Slot), va_P D vwCl [(a_L, .inr (1, [.ref a_P, .ref a_N, .ref a_S, .ref a_L_near, .ref a_L_clear, .int v_L_found, .int v_L_supposed])), (a_L_near, .inl (K 0, 12, .inl f_L_near))] H → va_D A [(a_L, .inr (1, [.ref a_P, .ref a_N, .ref a_S, .ref a_L_near, .ref a_L_clear, .int v_L_found, .int v_L_supposed])), (a_L_near, .inl (K 0, 12, .inl f_L_near))] → va_S A s.heap H locs → lv_has ls 8 [(5, .int (nI j1)), (4, .int y3), (3, .int y2), (0, .ref a_L), (1, .int x0), (2, .int x1)] → W p l e { frames := 1, cells := 0, slots := 0, locals := 21 } s m ([.ref a_L, .int x0, .int x1] : List Value).toArray below meth c H locs 0 0 (MQ below (uQi D (qwX1_reach a_L v_L_found v_L_supposed a_L_near f_L_near a_P a_N a_S a_L_clear x0 x1) (vwX1_reach K a_L v_L_found v_L_supposed a_L_near f_L_near a_P a_N a_S a_L_clear x0 x1) A) ([.ref a_L, .int x0, .int x1] : List Value).toArray s 0 0 A) (F0 m 8 ls []) := by
    intro n9
    induction n9 with
    | zero => intros; exact absurd ‹_ < 0› (Nat.not_lt_zero _)
    | succ n8_ ih8 =>
      intro j1 y2 y3 hj1 hm8 H locs ls hP hD hS hl
      refine lv_iload hx hb dX1_reach_8 (lv_at hl 0 rfl) ?_
      refine lv_bipush (v := 12) hx hb dX1_reach_10 (by decide) ?_
      refine lv_icmp_ge (tgt := 76) hx hb dX1_reach_12 (by decide) (fun c6 => ?_) (fun c6 => ?_)
      · have k_6 : 12 ≤ j1 := (nI_leI (a := 12) (b := j1) (by omega) (by omega)).mp c6
        refine lv_iload_n hx hb dX1_reach_76 rfl (lv_at hl 2 rfl) ?_
        exact uRi () B trivial (uSub hP [0, 1] rfl) (hD.sub [0, 1] rfl rfl) hS dX1_reach_77
      have k_6 : ¬ 12 ≤ j1 := fun h9 => c6 ((nI_leI (a := 12) (b := j1) (by omega) (by omega)).mpr h9)
      refine lv_iload hx hb dX1_reach_15 (lv_at hl 1 rfl) ?_
      refine lv_if_eq (tgt := 76) hx hb dX1_reach_17 (by decide) (fun c7 => ?_) (fun c7 => ?_)
      · refine lv_pc (q := 76) rfl ?_
        refine lv_iload_n hx hb dX1_reach_76 rfl (lv_at hl 2 rfl) ?_
        exact uRi () B trivial (uSub hP [0, 1] rfl) (hD.sub [0, 1] rfl rfl) hS dX1_reach_77
      refine lv_pc (q := 20) rfl ?_
      refine lv_iload hx hb dX1_reach_20 (lv_at hl 1 rfl) ?_
      refine uSi (As := [.int y3]) (rest := []) (wr := [(a_L, .inr (1, [.ref a_P, .ref a_N, .ref a_S, .ref a_L_near, .ref a_L_clear, .int v_L_found, .int v_L_supposed])), (a_L_near, .inl (K 0, 12, .inl f_L_near))]) [] B hl.1 hP hD hS [] [0, 1] rfl rfl rfl (wJ6_numberOfTrailingZeros_0f7a4 l D K _ y3) wd_J6_numberOfTrailingZeros_0f7a4 mml_X1_76 rfl rfl ⟨Nat.le_of_ble_eq_true rfl, Nat.le_of_ble_eq_true rfl⟩ (Nat.le_of_ble_eq_true rfl) ⟨Nat.le_of_ble_eq_true rfl, Nat.le_of_ble_eq_true rfl⟩ dX1_reach_22 (fun r8 u H locs hw hP hD hS => ?_)
      try dsimp only at hw
      have w9 := hw
      have hP : va_P D vwCl [(a_L, .inr (1, [.ref a_P, .ref a_N, .ref a_S, .ref a_L_near, .ref a_L_clear, .int v_L_found, .int v_L_supposed])), (a_L_near, .inl (K 0, 12, .inl f_L_near))] H := hP
      have hD := uDPJ hP hD
      obtain ⟨a10, ha10, ea10⟩ := w9
      refine lv_fixi (y := (nI a10)) ea10 ?_
      refine lv_istore (lv' := [(6, .int (nI a10)), (5, .int (nI j1)), (4, .int y3), (3, .int y2), (0, .ref a_L), (1, .int x0), (2, .int x1)]) hx hb dX1_reach_25 hl (by decide) rfl (fun ls hl => ?_)
      refine lv_iload hx hb dX1_reach_27 (lv_at hl 0 rfl) ?_
      refine lv_bipush (v := 12) hx hb dX1_reach_29 (by decide) ?_
      refine lv_icmp_ge (tgt := 50) hx hb dX1_reach_31 (by decide) (fun c11 => ?_) (fun c11 => ?_)
      · have k_11 : 12 ≤ a10 := (nI_leI (a := 12) (b := a10) (by omega) (by omega)).mp c11
        refine lv_pc (q := 50) rfl ?_
        refine lv_iconst (v := 0) hx hb dX1_reach_50 (by decide) ?_
        refine lv_istore (lv' := [(7, .int 0), (6, .int (nI a10)), (5, .int (nI j1)), (4, .int y3), (3, .int y2), (0, .ref a_L), (1, .int x0), (2, .int x1)]) hx hb dX1_reach_51 hl (by decide) rfl (fun ls hl => ?_)
        refine lv_iload_n hx hb dX1_reach_53 rfl (lv_at hl 4 rfl) ?_
        refine lv_iload hx hb dX1_reach_54 (lv_at hl 0 rfl) ?_
        refine lv_ior hx hb dX1_reach_56 ?_
        refine lv_istore_n (lv' := [(3, .int (y2 ||| 0)), (7, .int 0), (6, .int (nI a10)), (5, .int (nI j1)), (4, .int y3), (0, .ref a_L), (1, .int x0), (2, .int x1)]) hx hb dX1_reach_57 rfl hl (by decide) rfl (fun ls hl => ?_)
        refine lv_pc (q := 58) rfl ?_
        refine lv_iload hx hb dX1_reach_58 (lv_at hl 4 rfl) ?_
        refine lv_iload hx hb dX1_reach_60 (lv_at hl 4 rfl) ?_
        refine lv_iconst (v := 1) hx hb dX1_reach_62 (by decide) ?_
        refine lv_isub hx hb dX1_reach_63 ?_
        refine lv_iand hx hb dX1_reach_64 ?_
        refine lv_iload hx hb dX1_reach_65 (lv_at hl 1 rfl) ?_
        refine lv_pc (q := 67) rfl ?_
        refine lv_ior hx hb dX1_reach_67 ?_
        refine lv_istore (lv' := [(4, .int ((y3 &&& (y3 - 1)) ||| 0)), (3, .int (y2 ||| 0)), (7, .int 0), (6, .int (nI a10)), (5, .int (nI j1)), (0, .ref a_L), (1, .int x0), (2, .int x1)]) hx hb dX1_reach_68 hl (by decide) rfl (fun ls hl => ?_)
        refine lv_iinc (v := nI (j1 + 1)) (lv' := [(5, .int (nI (j1 + 1))), (4, .int ((y3 &&& (y3 - 1)) ||| 0)), (3, .int (y2 ||| 0)), (7, .int 0), (6, .int (nI a10)), (0, .ref a_L), (1, .int x0), (2, .int x1)]) hx hb dX1_reach_70 hl (k := 4) rfl (nI_1 _) (by decide) rfl (fun ls hl => ?_)
        refine lv_goto (tgt := 8) hx hb dX1_reach_73 (by decide) ?_
        refine lv_pc (q := 8) rfl ?_
        refine W.widen (k := 0) (n := 0) (Nat.le_of_ble_eq_true rfl) (Nat.le_of_ble_eq_true rfl) ?_
        exact ih8 (j1 + 1) (y2 ||| 0) ((y3 &&& (y3 - 1)) ||| 0) (by omega) (by omega) _ _ _ (uSub hP [0, 1] rfl) (hD.sub [0, 1] rfl rfl) hS (lv_sub hl [0, 1, 2, 5, 6, 7] rfl)
      have k_11 : ¬ 12 ≤ a10 := fun h9 => c11 ((nI_leI (a := 12) (b := a10) (by omega) (by omega)).mpr h9)
      refine lv_pc (q := 34) rfl ?_
      refine lv_aload_n hx hb dX1_reach_34 rfl (lv_at hl 4 rfl) ?_
      refine uGet (ci := 1) (C := RX1) (T := TX1) (N := 7) (v := .ref a_L_near) B inlX1 hP 0 rfl rfl 3 rfl mfl_X1_9 rfl rfl dX1_reach_35 ?_
      refine lv_iload hx hb dX1_reach_38 (lv_at hl 0 rfl) ?_
      refine uIald (i := (nI a10)) (j := a10) B hP 1 rfl (nI_in (by omega) (by omega)) (nI_clamp (by omega)) dX1_reach_40 ?_
      refine lv_iload_n hx hb dX1_reach_41 rfl (lv_at hl 6 rfl) ?_
      refine lv_iand hx hb dX1_reach_42 ?_
      refine lv_pc (q := 43) rfl ?_
      refine lv_iload_n hx hb dX1_reach_43 rfl (lv_at hl 3 rfl) ?_
      refine lv_iconst (v := (-1)) hx hb dX1_reach_44 (by decide) ?_
      refine lv_ixor hx hb dX1_reach_45 ?_
      refine lv_iand hx hb dX1_reach_46 ?_
      refine lv_goto (tgt := 51) hx hb dX1_reach_47 (by decide) ?_
      refine lv_istore (lv' := [(7, .int (((f_L_near a10) &&& x1) &&& (y2 ^^^ (-1)))), (6, .int (nI a10)), (5, .int (nI j1)), (4, .int y3), (3, .int y2), (0, .ref a_L), (1, .int x0), (2, .int x1)]) hx hb dX1_reach_51 hl (by decide) rfl (fun ls hl => ?_)
      refine lv_pc (q := 53) rfl ?_
      refine lv_iload_n hx hb dX1_reach_53 rfl (lv_at hl 4 rfl) ?_
      refine lv_iload hx hb dX1_reach_54 (lv_at hl 0 rfl) ?_
      refine lv_ior hx hb dX1_reach_56 ?_
      refine lv_istore_n (lv' := [(3, .int (y2 ||| (((f_L_near a10) &&& x1) &&& (y2 ^^^ (-1))))), (7, .int (((f_L_near a10) &&& x1) &&& (y2 ^^^ (-1)))), (6, .int (nI a10)), (5, .int (nI j1)), (4, .int y3), (0, .ref a_L), (1, .int x0), (2, .int x1)]) hx hb dX1_reach_57 rfl hl (by decide) rfl (fun ls hl => ?_)
      refine lv_iload hx hb dX1_reach_58 (lv_at hl 4 rfl) ?_
      refine lv_iload hx hb dX1_reach_60 (lv_at hl 4 rfl) ?_
      refine lv_pc (q := 62) rfl ?_
      refine lv_iconst (v := 1) hx hb dX1_reach_62 (by decide) ?_
      refine lv_isub hx hb dX1_reach_63 ?_
      refine lv_iand hx hb dX1_reach_64 ?_
      refine lv_iload hx hb dX1_reach_65 (lv_at hl 1 rfl) ?_
      refine lv_ior hx hb dX1_reach_67 ?_
      refine lv_topi (fun y12 ey12 => ?_)
      clear ey12
      refine lv_istore (lv' := [(4, .int y12), (3, .int (y2 ||| (((f_L_near a10) &&& x1) &&& (y2 ^^^ (-1))))), (7, .int (((f_L_near a10) &&& x1) &&& (y2 ^^^ (-1)))), (6, .int (nI a10)), (5, .int (nI j1)), (0, .ref a_L), (1, .int x0), (2, .int x1)]) hx hb dX1_reach_68 hl (by decide) rfl (fun ls hl => ?_)
      refine lv_pc (q := 70) rfl ?_
      refine lv_iinc (v := nI (j1 + 1)) (lv' := [(5, .int (nI (j1 + 1))), (4, .int y12), (3, .int (y2 ||| (((f_L_near a10) &&& x1) &&& (y2 ^^^ (-1))))), (7, .int (((f_L_near a10) &&& x1) &&& (y2 ^^^ (-1)))), (6, .int (nI a10)), (0, .ref a_L), (1, .int x0), (2, .int x1)]) hx hb dX1_reach_70 hl (k := 4) rfl (nI_1 _) (by decide) rfl (fun ls hl => ?_)
      refine lv_goto (tgt := 8) hx hb dX1_reach_73 (by decide) ?_
      refine lv_pc (q := 8) rfl ?_
      refine W.widen (k := 0) (n := 0) (Nat.le_of_ble_eq_true rfl) (Nat.le_of_ble_eq_true rfl) ?_
      exact ih8 (j1 + 1) (y2 ||| (((f_L_near a10) &&& x1) &&& (y2 ^^^ (-1)))) y12 (by omega) (by omega) _ _ _ (uSub hP [0, 1] rfl) (hD.sub [0, 1] rfl rfl) hS (lv_sub hl [0, 1, 2, 5, 6, 7] rfl)
  refine lv_pc (q := 8) rfl ?_
  refine W.widen (k := 0) (n := 0) (Nat.le_of_ble_eq_true rfl) (Nat.le_of_ble_eq_true rfl) ?_
  exact L5 ((12 - 0) + 1) 0 x0 x0 (by omega) (Nat.lt_succ_self _) _ _ _ hP hD hS hl
def qwX1_groupsAmong (a_L : Nat) (v_L_found : Int32) (v_L_supposed : Int32) (a_L_near : Nat) (f_L_near : Nat → Int32) (a_P : Nat) (a_N : Nat) (a_S : Nat) (a_L_clear : Nat) (x0 : Int32) : Int32 → (Unit) → Prop := (fun (r : Int32) (u : Unit) => True)
def vwX1_groupsAmong (K : Nat → ClassId) (a_L : Nat) (v_L_found : Int32) (v_L_supposed : Int32) (a_L_near : Nat) (f_L_near : Nat → Int32) (a_P : Nat) (a_N : Nat) (a_S : Nat) (a_L_clear : Nat) (x0 : Int32) : (Unit) → va_W := (fun (u : Unit) => [(a_L, .inr (1, [.ref a_P, .ref a_N, .ref a_S, .ref a_L_near, .ref a_L_clear, .int v_L_found, .int v_L_supposed])), (a_L_near, .inl (K 0, 12, .inl f_L_near))])
set_option maxHeartbeats 4000000 in
set_option maxRecDepth 100000 in
theorem wX1_groupsAmong (l : Launch) (D : va_G) (K : Nat → ClassId) (sz : Nat) (a_L : Nat) (v_L_found : Int32) (v_L_supposed : Int32) (a_L_near : Nat) (f_L_near : Nat → Int32) (a_P : Nat) (a_N : Nat) (a_S : Nat) (a_L_clear : Nat) (x0 : Int32) : uMi l yX1_groupsAmong cX1_groupsAmong 5 (some .int) { frames := 2, cells := 0, slots := 0, locals := 48 } [.ref a_L, .int x0] D K [(a_L, .inr (1, [.ref a_P, .ref a_N, .ref a_S, .ref a_L_near, .ref a_L_clear, .int v_L_found, .int v_L_supposed])), (a_L_near, .inl (K 0, 12, .inl f_L_near))] sz (qwX1_groupsAmong a_L v_L_found v_L_supposed a_L_near f_L_near a_P a_N a_S a_L_clear x0) (vwX1_groupsAmong K a_L v_L_found v_L_supposed a_L_near f_L_near a_P a_N a_S a_L_clear x0) := by
  refine uMet (Qc := uQi D (qwX1_groupsAmong a_L v_L_found v_L_supposed a_L_near f_L_near a_P a_N a_S a_L_clear x0) (vwX1_groupsAmong K a_L v_L_found v_L_supposed a_L_near f_L_near a_P a_N a_S a_L_clear x0)) (ret := (some .int)) (by decide) (Nat.le_of_ble_eq_true rfl) ?_
  intro p e s m below meth c A ls hAe hsz B hP hD hS hl
  have hx := B.1
  have hb := B.2.1
  have hl : lv_has ls 5 [(0, .ref a_L), (1, .int x0)] := hl
  refine lv_iload_n hx hb dX1_groupsAmong_0 rfl (lv_at hl 1 rfl) ?_
  refine lv_istore_n (lv' := [(2, .int x0), (0, .ref a_L), (1, .int x0)]) hx hb dX1_groupsAmong_1 rfl hl (by decide) rfl (fun ls hl => ?_)
  refine lv_iconst (v := 0) hx hb dX1_groupsAmong_2 (by decide) ?_
  refine lv_istore_n (lv' := [(3, .int 0), (2, .int x0), (0, .ref a_L), (1, .int x0)]) hx hb dX1_groupsAmong_3 rfl hl (by decide) rfl (fun ls hl => ?_)
  refine lv_iconst (v := 0) hx hb dX1_groupsAmong_4 (by decide) ?_
  refine lv_pc (q := 5) rfl ?_
  refine lv_istore (lv' := [(4, .int 0), (3, .int 0), (2, .int x0), (0, .ref a_L), (1, .int x0)]) hx hb dX1_groupsAmong_5 hl (by decide) rfl (fun ls hl => ?_)
  have L5 : ∀ (n9 : Nat) (j1 : Nat) (y2 : Int32) (y3 : Int32), (j1 ≤ 12) → 12 - j1 < n9 → ∀ (H : Heap) (locs : List Loc) (ls : Array Slot), va_P D vwCl [(a_L, .inr (1, [.ref a_P, .ref a_N, .ref a_S, .ref a_L_near, .ref a_L_clear, .int v_L_found, .int v_L_supposed])), (a_L_near, .inl (K 0, 12, .inl f_L_near))] H → va_D A [(a_L, .inr (1, [.ref a_P, .ref a_N, .ref a_S, .ref a_L_near, .ref a_L_clear, .int v_L_found, .int v_L_supposed])), (a_L_near, .inl (K 0, 12, .inl f_L_near))] → va_S A s.heap H locs → lv_has ls 5 [(4, .int (nI j1)), (3, .int y3), (2, .int y2), (0, .ref a_L), (1, .int x0)] → W p l e { frames := 2, cells := 0, slots := 0, locals := 48 } s m ([.ref a_L, .int x0] : List Value).toArray below meth c H locs 0 0 (MQ below (uQi D (qwX1_groupsAmong a_L v_L_found v_L_supposed a_L_near f_L_near a_P a_N a_S a_L_clear x0) (vwX1_groupsAmong K a_L v_L_found v_L_supposed a_L_near f_L_near a_P a_N a_S a_L_clear x0) A) ([.ref a_L, .int x0] : List Value).toArray s 0 0 A) (F0 m 7 ls []) := by
    intro n9
    induction n9 with
    | zero => intros; exact absurd ‹_ < 0› (Nat.not_lt_zero _)
    | succ n7_ ih7 =>
      intro j1 y2 y3 hj1 hm7 H locs ls hP hD hS hl
      refine lv_iload hx hb dX1_groupsAmong_7 (lv_at hl 0 rfl) ?_
      refine lv_bipush (v := 12) hx hb dX1_groupsAmong_9 (by decide) ?_
      refine lv_icmp_ge (tgt := 47) hx hb dX1_groupsAmong_11 (by decide) (fun c6 => ?_) (fun c6 => ?_)
      · have k_6 : 12 ≤ j1 := (nI_leI (a := 12) (b := j1) (by omega) (by omega)).mp c6
        refine lv_iload_n hx hb dX1_groupsAmong_47 rfl (lv_at hl 1 rfl) ?_
        exact uRi () B trivial (uSub hP [0, 1] rfl) (hD.sub [0, 1] rfl rfl) hS dX1_groupsAmong_48
      have k_6 : ¬ 12 ≤ j1 := fun h9 => c6 ((nI_leI (a := 12) (b := j1) (by omega) (by omega)).mpr h9)
      refine lv_iload_n hx hb dX1_groupsAmong_14 rfl (lv_at hl 2 rfl) ?_
      refine lv_iload hx hb dX1_groupsAmong_15 (lv_at hl 0 rfl) ?_
      refine lv_pc (q := 17) rfl ?_
      refine lv_ishr hx hb dX1_groupsAmong_17 ?_
      refine lv_iconst (v := 1) hx hb dX1_groupsAmong_18 (by decide) ?_
      refine lv_iand hx hb dX1_groupsAmong_19 ?_
      refine lv_iconst (v := 1) hx hb dX1_groupsAmong_20 (by decide) ?_
      refine lv_icmp_ne (tgt := 41) hx hb dX1_groupsAmong_21 (by decide) (fun c7 => ?_) (fun c7 => ?_)
      · refine lv_iinc (v := nI (j1 + 1)) (lv' := [(4, .int (nI (j1 + 1))), (3, .int y3), (2, .int y2), (0, .ref a_L), (1, .int x0)]) hx hb dX1_groupsAmong_41 hl (k := 0) rfl (nI_1 _) (by decide) rfl (fun ls hl => ?_)
        refine lv_pc (q := 44) rfl ?_
        refine lv_goto (tgt := 7) hx hb dX1_groupsAmong_44 (by decide) ?_
        refine lv_pc (q := 7) rfl ?_
        refine W.widen (k := 0) (n := 0) (Nat.le_of_ble_eq_true rfl) (Nat.le_of_ble_eq_true rfl) ?_
        exact ih7 (j1 + 1) y2 y3 (by omega) (by omega) _ _ _ (uSub hP [0, 1] rfl) (hD.sub [0, 1] rfl rfl) hS (lv_sub hl [0, 1, 2, 3, 4] rfl)
      refine lv_iload_n hx hb dX1_groupsAmong_24 rfl (lv_at hl 2 rfl) ?_
      refine lv_pc (q := 25) rfl ?_
      refine lv_aload_n hx hb dX1_groupsAmong_25 rfl (lv_at hl 3 rfl) ?_
      refine lv_iconst (v := 1) hx hb dX1_groupsAmong_26 (by decide) ?_
      refine lv_iload hx hb dX1_groupsAmong_27 (lv_at hl 0 rfl) ?_
      refine lv_ishl hx hb dX1_groupsAmong_29 ?_
      refine lv_iload_n hx hb dX1_groupsAmong_30 rfl (lv_at hl 4 rfl) ?_
      refine uViJ (As := [.int (1 <<< ((nI j1) &&& 31)), .int x0]) (rest := [.int y2]) (wr := []) (wX1_reach l D K _ a_L v_L_found v_L_supposed a_L_near f_L_near a_P a_N a_S a_L_clear (1 <<< ((nI j1) &&& 31)) x0) B hl.1 hP hD hS [0, 1] [] rfl rfl rfl wd_X1_reach mml_X1_82 rfl rfl rfl rfl ⟨Nat.le_of_ble_eq_true rfl, Nat.le_of_ble_eq_true rfl⟩ (Nat.le_of_ble_eq_true rfl) ⟨Nat.le_of_ble_eq_true rfl, Nat.le_of_ble_eq_true rfl⟩ dX1_groupsAmong_31 (fun r8 u H locs hw hP hD hS => ?_)
      try dsimp only at hw
      have hP : va_P D vwCl [(a_L, .inr (1, [.ref a_P, .ref a_N, .ref a_S, .ref a_L_near, .ref a_L_clear, .int v_L_found, .int v_L_supposed])), (a_L_near, .inl (K 0, 12, .inl f_L_near))] H := hP
      have hD := uDPJ hP hD
      refine lv_pc (q := 34) rfl ?_
      refine lv_iconst (v := (-1)) hx hb dX1_groupsAmong_34 (by decide) ?_
      refine lv_ixor hx hb dX1_groupsAmong_35 ?_
      refine lv_iand hx hb dX1_groupsAmong_36 ?_
      refine lv_istore_n (lv' := [(2, .int (y2 &&& (r8 ^^^ (-1)))), (4, .int (nI j1)), (3, .int y3), (0, .ref a_L), (1, .int x0)]) hx hb dX1_groupsAmong_37 rfl hl (by decide) rfl (fun ls hl => ?_)
      refine lv_iinc (v := y3 + 1) (lv' := [(3, .int (y3 + 1)), (2, .int (y2 &&& (r8 ^^^ (-1)))), (4, .int (nI j1)), (0, .ref a_L), (1, .int x0)]) hx hb dX1_groupsAmong_38 hl (k := 2) rfl rfl (by decide) rfl (fun ls hl => ?_)
      refine lv_iinc (v := nI (j1 + 1)) (lv' := [(4, .int (nI (j1 + 1))), (3, .int (y3 + 1)), (2, .int (y2 &&& (r8 ^^^ (-1)))), (0, .ref a_L), (1, .int x0)]) hx hb dX1_groupsAmong_41 hl (k := 2) rfl (nI_1 _) (by decide) rfl (fun ls hl => ?_)
      refine lv_pc (q := 44) rfl ?_
      refine lv_goto (tgt := 7) hx hb dX1_groupsAmong_44 (by decide) ?_
      refine lv_pc (q := 7) rfl ?_
      refine W.widen (k := 0) (n := 0) (Nat.le_of_ble_eq_true rfl) (Nat.le_of_ble_eq_true rfl) ?_
      exact ih7 (j1 + 1) (y2 &&& (r8 ^^^ (-1))) (y3 + 1) (by omega) (by omega) _ _ _ (uSub hP [0, 1] rfl) (hD.sub [0, 1] rfl rfl) hS (lv_sub hl [0, 1, 2, 3, 4] rfl)
  refine lv_pc (q := 7) rfl ?_
  refine W.widen (k := 0) (n := 0) (Nat.le_of_ble_eq_true rfl) (Nat.le_of_ble_eq_true rfl) ?_
  exact L5 ((12 - 0) + 1) 0 x0 0 (by omega) (Nat.lt_succ_self _) _ _ _ hP hD hS hl
def qwX1_cutBits (a_L : Nat) (v_L_found : Int32) (v_L_supposed : Int32) (a_L_near : Nat) (f_L_near : Nat → Int32) (a_P : Nat) (a_N : Nat) (a_S : Nat) (a_L_clear : Nat) : Int32 → (Unit) → Prop := (fun (r : Int32) (u : Unit) => True)
def vwX1_cutBits (K : Nat → ClassId) (a_L : Nat) (v_L_found : Int32) (v_L_supposed : Int32) (a_L_near : Nat) (f_L_near : Nat → Int32) (a_P : Nat) (a_N : Nat) (a_S : Nat) (a_L_clear : Nat) : (Unit) → va_W := (fun (u : Unit) => [(a_L, .inr (1, [.ref a_P, .ref a_N, .ref a_S, .ref a_L_near, .ref a_L_clear, .int v_L_found, .int v_L_supposed])), (a_L_near, .inl (K 0, 12, .inl f_L_near))])
set_option maxHeartbeats 4000000 in
set_option maxRecDepth 100000 in
theorem wX1_cutBits (l : Launch) (D : va_G) (K : Nat → ClassId) (sz : Nat) (a_L : Nat) (v_L_found : Int32) (v_L_supposed : Int32) (a_L_near : Nat) (f_L_near : Nat → Int32) (a_P : Nat) (a_N : Nat) (a_S : Nat) (a_L_clear : Nat) : uMi l yX1_cutBits cX1_cutBits 4 (some .int) { frames := 3, cells := 0, slots := 0, locals := 72 } [.ref a_L] D K [(a_L, .inr (1, [.ref a_P, .ref a_N, .ref a_S, .ref a_L_near, .ref a_L_clear, .int v_L_found, .int v_L_supposed])), (a_L_near, .inl (K 0, 12, .inl f_L_near))] sz (qwX1_cutBits a_L v_L_found v_L_supposed a_L_near f_L_near a_P a_N a_S a_L_clear) (vwX1_cutBits K a_L v_L_found v_L_supposed a_L_near f_L_near a_P a_N a_S a_L_clear) := by
  refine uMet (Qc := uQi D (qwX1_cutBits a_L v_L_found v_L_supposed a_L_near f_L_near a_P a_N a_S a_L_clear) (vwX1_cutBits K a_L v_L_found v_L_supposed a_L_near f_L_near a_P a_N a_S a_L_clear)) (ret := (some .int)) (by decide) (Nat.le_of_ble_eq_true rfl) ?_
  intro p e s m below meth c A ls hAe hsz B hP hD hS hl
  have hx := B.1
  have hb := B.2.1
  have hl : lv_has ls 4 [(0, .ref a_L)] := hl
  refine lv_aload_n hx hb dX1_cutBits_0 rfl (lv_at hl 0 rfl) ?_
  refine lv_aload_n hx hb dX1_cutBits_1 rfl (lv_at hl 0 rfl) ?_
  refine uGet (ci := 1) (C := RX1) (T := TX1) (N := 7) (v := .int v_L_found) B inlX1 hP 0 rfl rfl 5 rfl mfl_X1_18 rfl rfl dX1_cutBits_2 ?_
  refine uViJ (As := [.int v_L_found]) (rest := []) (wr := []) (wX1_groupsAmong l D K _ a_L v_L_found v_L_supposed a_L_near f_L_near a_P a_N a_S a_L_clear v_L_found) B hl.1 hP hD hS [0, 1] [] rfl rfl rfl wd_X1_groupsAmong mml_X1_85 rfl rfl rfl rfl ⟨Nat.le_of_ble_eq_true rfl, Nat.le_of_ble_eq_true rfl⟩ (Nat.le_of_ble_eq_true rfl) ⟨Nat.le_of_ble_eq_true rfl, Nat.le_of_ble_eq_true rfl⟩ dX1_cutBits_5 (fun r1 u H locs hw hP hD hS => ?_)
  try dsimp only at hw
  have hP : va_P D vwCl [(a_L, .inr (1, [.ref a_P, .ref a_N, .ref a_S, .ref a_L_near, .ref a_L_clear, .int v_L_found, .int v_L_supposed])), (a_L_near, .inl (K 0, 12, .inl f_L_near))] H := hP
  have hD := uDPJ hP hD
  refine lv_istore_n (lv' := [(1, .int r1), (0, .ref a_L)]) hx hb dX1_cutBits_8 rfl hl (by decide) rfl (fun ls hl => ?_)
  refine lv_pc (q := 9) rfl ?_
  refine lv_iconst (v := 0) hx hb dX1_cutBits_9 (by decide) ?_
  refine lv_istore_n (lv' := [(2, .int 0), (1, .int r1), (0, .ref a_L)]) hx hb dX1_cutBits_10 rfl hl (by decide) rfl (fun ls hl => ?_)
  refine lv_iconst (v := 0) hx hb dX1_cutBits_11 (by decide) ?_
  refine lv_istore_n (lv' := [(3, .int 0), (2, .int 0), (1, .int r1), (0, .ref a_L)]) hx hb dX1_cutBits_12 rfl hl (by decide) rfl (fun ls hl => ?_)
  have L5 : ∀ (n9 : Nat) (j2 : Nat) (y3 : Int32), (j2 ≤ 12) → 12 - j2 < n9 → ∀ (H : Heap) (locs : List Loc) (ls : Array Slot), va_P D vwCl [(a_L, .inr (1, [.ref a_P, .ref a_N, .ref a_S, .ref a_L_near, .ref a_L_clear, .int v_L_found, .int v_L_supposed])), (a_L_near, .inl (K 0, 12, .inl f_L_near))] H → va_D A [(a_L, .inr (1, [.ref a_P, .ref a_N, .ref a_S, .ref a_L_near, .ref a_L_clear, .int v_L_found, .int v_L_supposed])), (a_L_near, .inl (K 0, 12, .inl f_L_near))] → va_S A s.heap H locs → lv_has ls 4 [(3, .int (nI j2)), (2, .int y3), (1, .int r1), (0, .ref a_L)] → W p l e { frames := 3, cells := 0, slots := 0, locals := 72 } s m ([.ref a_L] : List Value).toArray below meth c H locs 0 0 (MQ below (uQi D (qwX1_cutBits a_L v_L_found v_L_supposed a_L_near f_L_near a_P a_N a_S a_L_clear) (vwX1_cutBits K a_L v_L_found v_L_supposed a_L_near f_L_near a_P a_N a_S a_L_clear) A) ([.ref a_L] : List Value).toArray s 0 0 A) (F0 m 13 ls []) := by
    intro n9
    induction n9 with
    | zero => intros; exact absurd ‹_ < 0› (Nat.not_lt_zero _)
    | succ n13_ ih13 =>
      intro j2 y3 hj2 hm13 H locs ls hP hD hS hl
      refine lv_iload_n hx hb dX1_cutBits_13 rfl (lv_at hl 0 rfl) ?_
      refine lv_bipush (v := 12) hx hb dX1_cutBits_14 (by decide) ?_
      refine lv_pc (q := 16) rfl ?_
      refine lv_icmp_ge (tgt := 61) hx hb dX1_cutBits_16 (by decide) (fun c6 => ?_) (fun c6 => ?_)
      · have k_6 : 12 ≤ j2 := (nI_leI (a := 12) (b := j2) (by omega) (by omega)).mp c6
        refine lv_iload_n hx hb dX1_cutBits_61 rfl (lv_at hl 1 rfl) ?_
        exact uRi () B trivial (uSub hP [0, 1] rfl) (hD.sub [0, 1] rfl rfl) hS dX1_cutBits_62
      have k_6 : ¬ 12 ≤ j2 := fun h9 => c6 ((nI_leI (a := 12) (b := j2) (by omega) (by omega)).mpr h9)
      refine lv_aload_n hx hb dX1_cutBits_19 rfl (lv_at hl 3 rfl) ?_
      refine uGet (ci := 1) (C := RX1) (T := TX1) (N := 7) (v := .int v_L_found) B inlX1 hP 0 rfl rfl 5 rfl mfl_X1_18 rfl rfl dX1_cutBits_20 ?_
      refine lv_iload_n hx hb dX1_cutBits_23 rfl (lv_at hl 0 rfl) ?_
      refine lv_ishr hx hb dX1_cutBits_24 ?_
      refine lv_iconst (v := 1) hx hb dX1_cutBits_25 (by decide) ?_
      refine lv_pc (q := 26) rfl ?_
      refine lv_iand hx hb dX1_cutBits_26 ?_
      refine lv_iconst (v := 1) hx hb dX1_cutBits_27 (by decide) ?_
      refine lv_icmp_ne (tgt := 55) hx hb dX1_cutBits_28 (by decide) (fun c7 => ?_) (fun c7 => ?_)
      · refine lv_iinc (v := nI (j2 + 1)) (lv' := [(3, .int (nI (j2 + 1))), (2, .int y3), (1, .int r1), (0, .ref a_L)]) hx hb dX1_cutBits_55 hl (k := 0) rfl (nI_1 _) (by decide) rfl (fun ls hl => ?_)
        refine lv_goto (tgt := 13) hx hb dX1_cutBits_58 (by decide) ?_
        refine lv_pc (q := 13) rfl ?_
        refine W.widen (k := 0) (n := 0) (Nat.le_of_ble_eq_true rfl) (Nat.le_of_ble_eq_true rfl) ?_
        exact ih13 (j2 + 1) y3 (by omega) (by omega) _ _ _ (uSub hP [0, 1] rfl) (hD.sub [0, 1] rfl rfl) hS (lv_sub hl [0, 1, 2, 3] rfl)
      refine lv_aload_n hx hb dX1_cutBits_31 rfl (lv_at hl 3 rfl) ?_
      refine lv_aload_n hx hb dX1_cutBits_32 rfl (lv_at hl 3 rfl) ?_
      refine uGet (ci := 1) (C := RX1) (T := TX1) (N := 7) (v := .int v_L_found) B inlX1 hP 0 rfl rfl 5 rfl mfl_X1_18 rfl rfl dX1_cutBits_33 ?_
      refine lv_pc (q := 36) rfl ?_
      refine lv_iconst (v := 1) hx hb dX1_cutBits_36 (by decide) ?_
      refine lv_iload_n hx hb dX1_cutBits_37 rfl (lv_at hl 0 rfl) ?_
      refine lv_ishl hx hb dX1_cutBits_38 ?_
      refine lv_iconst (v := (-1)) hx hb dX1_cutBits_39 (by decide) ?_
      refine lv_ixor hx hb dX1_cutBits_40 ?_
      refine lv_iand hx hb dX1_cutBits_41 ?_
      refine lv_pc (q := 42) rfl ?_
      refine uViJ (As := [.int (v_L_found &&& ((1 <<< ((nI j2) &&& 31)) ^^^ (-1)))]) (rest := []) (wr := []) (wX1_groupsAmong l D K _ a_L v_L_found v_L_supposed a_L_near f_L_near a_P a_N a_S a_L_clear (v_L_found &&& ((1 <<< ((nI j2) &&& 31)) ^^^ (-1)))) B hl.1 hP hD hS [0, 1] [] rfl rfl rfl wd_X1_groupsAmong mml_X1_85 rfl rfl rfl rfl ⟨Nat.le_of_ble_eq_true rfl, Nat.le_of_ble_eq_true rfl⟩ (Nat.le_of_ble_eq_true rfl) ⟨Nat.le_of_ble_eq_true rfl, Nat.le_of_ble_eq_true rfl⟩ dX1_cutBits_42 (fun r8 u H locs hw hP hD hS => ?_)
      try dsimp only at hw
      have hP : va_P D vwCl [(a_L, .inr (1, [.ref a_P, .ref a_N, .ref a_S, .ref a_L_near, .ref a_L_clear, .int v_L_found, .int v_L_supposed])), (a_L_near, .inl (K 0, 12, .inl f_L_near))] H := hP
      have hD := uDPJ hP hD
      refine lv_iload_n hx hb dX1_cutBits_45 rfl (lv_at hl 2 rfl) ?_
      refine lv_icmp_le (tgt := 55) hx hb dX1_cutBits_46 (by decide) (fun c9 => ?_) (fun c9 => ?_)
      · refine lv_iinc (v := nI (j2 + 1)) (lv' := [(3, .int (nI (j2 + 1))), (2, .int y3), (1, .int r1), (0, .ref a_L)]) hx hb dX1_cutBits_55 hl (k := 0) rfl (nI_1 _) (by decide) rfl (fun ls hl => ?_)
        refine lv_goto (tgt := 13) hx hb dX1_cutBits_58 (by decide) ?_
        refine lv_pc (q := 13) rfl ?_
        refine W.widen (k := 0) (n := 0) (Nat.le_of_ble_eq_true rfl) (Nat.le_of_ble_eq_true rfl) ?_
        exact ih13 (j2 + 1) y3 (by omega) (by omega) _ _ _ (uSub hP [0, 1] rfl) (hD.sub [0, 1] rfl rfl) hS (lv_sub hl [0, 1, 2, 3] rfl)
      refine lv_iload_n hx hb dX1_cutBits_49 rfl (lv_at hl 1 rfl) ?_
      refine lv_iconst (v := 1) hx hb dX1_cutBits_50 (by decide) ?_
      refine lv_iload_n hx hb dX1_cutBits_51 rfl (lv_at hl 0 rfl) ?_
      refine lv_pc (q := 52) rfl ?_
      refine lv_ishl hx hb dX1_cutBits_52 ?_
      refine lv_ior hx hb dX1_cutBits_53 ?_
      refine lv_istore_n (lv' := [(2, .int (y3 ||| (1 <<< ((nI j2) &&& 31)))), (3, .int (nI j2)), (1, .int r1), (0, .ref a_L)]) hx hb dX1_cutBits_54 rfl hl (by decide) rfl (fun ls hl => ?_)
      refine lv_iinc (v := nI (j2 + 1)) (lv' := [(3, .int (nI (j2 + 1))), (2, .int (y3 ||| (1 <<< ((nI j2) &&& 31)))), (1, .int r1), (0, .ref a_L)]) hx hb dX1_cutBits_55 hl (k := 1) rfl (nI_1 _) (by decide) rfl (fun ls hl => ?_)
      refine lv_goto (tgt := 13) hx hb dX1_cutBits_58 (by decide) ?_
      refine lv_pc (q := 13) rfl ?_
      refine W.widen (k := 0) (n := 0) (Nat.le_of_ble_eq_true rfl) (Nat.le_of_ble_eq_true rfl) ?_
      exact ih13 (j2 + 1) (y3 ||| (1 <<< ((nI j2) &&& 31))) (by omega) (by omega) _ _ _ (uSub hP [0, 1] rfl) (hD.sub [0, 1] rfl rfl) hS (lv_sub hl [0, 1, 2, 3] rfl)
  refine lv_pc (q := 13) rfl ?_
  refine W.widen (k := 0) (n := 0) (Nat.le_of_ble_eq_true rfl) (Nat.le_of_ble_eq_true rfl) ?_
  exact L5 ((12 - 0) + 1) 0 0 (by omega) (Nat.lt_succ_self _) _ _ _ hP hD hS hl
def qwX1_isOneWith (a_L : Nat) (v_L_found : Int32) (v_L_supposed : Int32) (a_L_near : Nat) (f_L_near : Nat → Int32) (a_P : Nat) (a_N : Nat) (a_S : Nat) (a_L_clear : Nat) (x0 : Int32) : Int32 → (Unit) → Prop := (fun (r : Int32) (u : Unit) => ((r = 0) ∨ (r = 1)))
def vwX1_isOneWith (K : Nat → ClassId) (a_L : Nat) (v_L_found : Int32) (v_L_supposed : Int32) (a_L_near : Nat) (f_L_near : Nat → Int32) (a_P : Nat) (a_N : Nat) (a_S : Nat) (a_L_clear : Nat) (x0 : Int32) : (Unit) → va_W := (fun (u : Unit) => [(a_L, .inr (1, [.ref a_P, .ref a_N, .ref a_S, .ref a_L_near, .ref a_L_clear, .int v_L_found, .int v_L_supposed])), (a_L_near, .inl (K 0, 12, .inl f_L_near))])
set_option maxHeartbeats 4000000 in
set_option maxRecDepth 100000 in
theorem wX1_isOneWith (l : Launch) (D : va_G) (K : Nat → ClassId) (sz : Nat) (a_L : Nat) (v_L_found : Int32) (v_L_supposed : Int32) (a_L_near : Nat) (f_L_near : Nat → Int32) (a_P : Nat) (a_N : Nat) (a_S : Nat) (a_L_clear : Nat) (x0 : Int32) : uMi l yX1_isOneWith cX1_isOneWith 3 (some .boolean) { frames := 2, cells := 0, slots := 0, locals := 48 } [.ref a_L, .int x0] D K [(a_L, .inr (1, [.ref a_P, .ref a_N, .ref a_S, .ref a_L_near, .ref a_L_clear, .int v_L_found, .int v_L_supposed])), (a_L_near, .inl (K 0, 12, .inl f_L_near))] sz (qwX1_isOneWith a_L v_L_found v_L_supposed a_L_near f_L_near a_P a_N a_S a_L_clear x0) (vwX1_isOneWith K a_L v_L_found v_L_supposed a_L_near f_L_near a_P a_N a_S a_L_clear x0) := by
  refine uMet (Qc := uQi D (qwX1_isOneWith a_L v_L_found v_L_supposed a_L_near f_L_near a_P a_N a_S a_L_clear x0) (vwX1_isOneWith K a_L v_L_found v_L_supposed a_L_near f_L_near a_P a_N a_S a_L_clear x0)) (ret := (some .boolean)) (by decide) (Nat.le_of_ble_eq_true rfl) ?_
  intro p e s m below meth c A ls hAe hsz B hP hD hS hl
  have hx := B.1
  have hb := B.2.1
  have hl : lv_has ls 3 [(0, .ref a_L), (1, .int x0)] := hl
  refine lv_aload_n hx hb dX1_isOneWith_0 rfl (lv_at hl 0 rfl) ?_
  refine uGet (ci := 1) (C := RX1) (T := TX1) (N := 7) (v := .int v_L_found) B inlX1 hP 0 rfl rfl 5 rfl mfl_X1_18 rfl rfl dX1_isOneWith_1 ?_
  refine lv_aload_n hx hb dX1_isOneWith_4 rfl (lv_at hl 0 rfl) ?_
  refine uGet (ci := 1) (C := RX1) (T := TX1) (N := 7) (v := .int v_L_found) B inlX1 hP 0 rfl rfl 5 rfl mfl_X1_18 rfl rfl dX1_isOneWith_5 ?_
  refine lv_ineg hx hb dX1_isOneWith_8 ?_
  refine lv_pc (q := 9) rfl ?_
  refine lv_iand hx hb dX1_isOneWith_9 ?_
  refine lv_istore_n (lv' := [(2, .int (v_L_found &&& (-v_L_found))), (0, .ref a_L), (1, .int x0)]) hx hb dX1_isOneWith_10 rfl hl (by decide) rfl (fun ls hl => ?_)
  refine lv_aload_n hx hb dX1_isOneWith_11 rfl (lv_at hl 1 rfl) ?_
  refine uGet (ci := 1) (C := RX1) (T := TX1) (N := 7) (v := .int v_L_found) B inlX1 hP 0 rfl rfl 5 rfl mfl_X1_18 rfl rfl dX1_isOneWith_12 ?_
  refine lv_aload_n hx hb dX1_isOneWith_15 rfl (lv_at hl 1 rfl) ?_
  refine lv_iload_n hx hb dX1_isOneWith_16 rfl (lv_at hl 0 rfl) ?_
  refine lv_pc (q := 17) rfl ?_
  refine lv_aload_n hx hb dX1_isOneWith_17 rfl (lv_at hl 1 rfl) ?_
  refine uGet (ci := 1) (C := RX1) (T := TX1) (N := 7) (v := .int v_L_found) B inlX1 hP 0 rfl rfl 5 rfl mfl_X1_18 rfl rfl dX1_isOneWith_18 ?_
  refine lv_iload_n hx hb dX1_isOneWith_21 rfl (lv_at hl 2 rfl) ?_
  refine lv_ior hx hb dX1_isOneWith_22 ?_
  refine uViJ (As := [.int (v_L_found &&& (-v_L_found)), .int (v_L_found ||| x0)]) (rest := [.int v_L_found]) (wr := []) (wX1_reach l D K _ a_L v_L_found v_L_supposed a_L_near f_L_near a_P a_N a_S a_L_clear (v_L_found &&& (-v_L_found)) (v_L_found ||| x0)) B hl.1 hP hD hS [0, 1] [] rfl rfl rfl wd_X1_reach mml_X1_82 rfl rfl rfl rfl ⟨Nat.le_of_ble_eq_true rfl, Nat.le_of_ble_eq_true rfl⟩ (Nat.le_of_ble_eq_true rfl) ⟨Nat.le_of_ble_eq_true rfl, Nat.le_of_ble_eq_true rfl⟩ dX1_isOneWith_23 (fun r1 u H locs hw hP hD hS => ?_)
  try dsimp only at hw
  have hP : va_P D vwCl [(a_L, .inr (1, [.ref a_P, .ref a_N, .ref a_S, .ref a_L_near, .ref a_L_clear, .int v_L_found, .int v_L_supposed])), (a_L_near, .inl (K 0, 12, .inl f_L_near))] H := hP
  have hD := uDPJ hP hD
  refine lv_iconst (v := (-1)) hx hb dX1_isOneWith_26 (by decide) ?_
  refine lv_pc (q := 27) rfl ?_
  refine lv_ixor hx hb dX1_isOneWith_27 ?_
  refine lv_iand hx hb dX1_isOneWith_28 ?_
  refine lv_if_ne (tgt := 36) hx hb dX1_isOneWith_29 (by decide) (fun c2 => ?_) (fun c2 => ?_)
  · refine lv_iconst (v := 0) hx hb dX1_isOneWith_36 (by decide) ?_
    exact uRz () B rfl (Or.inl rfl) (uSub hP [0, 1] rfl) (hD.sub [0, 1] rfl rfl) hS dX1_isOneWith_37
  refine lv_iconst (v := 1) hx hb dX1_isOneWith_32 (by decide) ?_
  refine lv_goto (tgt := 37) hx hb dX1_isOneWith_33 (by decide) ?_
  exact uRz () B rfl (Or.inr rfl) (uSub hP [0, 1] rfl) (hD.sub [0, 1] rfl rfl) hS dX1_isOneWith_37
def qwX6_clear (a_V : Nat) (v_V_size : Nat) (v_V_fewest : Int32) (v_V_any : Int32) (a_V_sets : Nat) (a_V_shares : Nat) : (Nat × Int32) → Prop := (fun (u : Nat × Int32) => (u.1 ≤ 252) ∧ (u.2 = 0 ∨ u.2 = 1))
def vwX6_clear (K : Nat → ClassId) (a_V : Nat) (v_V_size : Nat) (v_V_fewest : Int32) (v_V_any : Int32) (a_V_sets : Nat) (a_V_shares : Nat) : (Nat × Int32) → va_W := (fun (u : Nat × Int32) => [(a_V, .inr (6, [.ref a_V_sets, .ref a_V_shares, .int (nI ((u.1))), .int v_V_fewest, .int u.2]))])
set_option maxHeartbeats 4000000 in
set_option maxRecDepth 100000 in
theorem wX6_clear (l : Launch) (D : va_G) (K : Nat → ClassId) (sz : Nat) (a_V : Nat) (v_V_size : Nat) (v_V_fewest : Int32) (v_V_any : Int32) (a_V_sets : Nat) (a_V_shares : Nat) (hv_V_size : v_V_size ≤ 252) (hv_V_any : v_V_any = 0 ∨ v_V_any = 1) : uMv l yX6_clear cX6_clear 1 { frames := 0, cells := 0, slots := 0, locals := 0 } [.ref a_V] D K [(a_V, .inr (6, [.ref a_V_sets, .ref a_V_shares, .int (nI v_V_size), .int v_V_fewest, .int v_V_any]))] sz (qwX6_clear a_V v_V_size v_V_fewest v_V_any a_V_sets a_V_shares) (vwX6_clear K a_V v_V_size v_V_fewest v_V_any a_V_sets a_V_shares) := by
  refine uMet (Qc := uQv D (qwX6_clear a_V v_V_size v_V_fewest v_V_any a_V_sets a_V_shares) (vwX6_clear K a_V v_V_size v_V_fewest v_V_any a_V_sets a_V_shares)) (ret := none) (by decide) (Nat.le_of_ble_eq_true rfl) ?_
  intro p e s m below meth c A ls hAe hsz B hP hD hS hl
  have hx := B.1
  have hb := B.2.1
  have hl : lv_has ls 1 [(0, .ref a_V)] := hl
  refine lv_aload_n hx hb dX6_clear_0 rfl (lv_at hl 0 rfl) ?_
  refine lv_iconst (v := 0) hx hb dX6_clear_1 (by decide) ?_
  refine uPut (ci := 6) (C := RX6) (T := TX6) (N := 5) (ws' := [(a_V, .inr (6, [.ref a_V_sets, .ref a_V_shares, .int (nI v_V_size), .int v_V_fewest, .int 0]))]) B inlX6 tyX6_ok nmX6 hP hD hS 0 rfl rfl 4 rfl mfl_X6_25 rfl rfl rfl rfl rfl rfl dX6_clear_2 (fun H locs hP hD hS => ?_)
  refine lv_aload_n hx hb dX6_clear_5 rfl (lv_at hl 0 rfl) ?_
  refine lv_iconst (v := 0) hx hb dX6_clear_6 (by decide) ?_
  refine lv_pc (q := 7) rfl ?_
  refine uPut (ci := 6) (C := RX6) (T := TX6) (N := 5) (ws' := [(a_V, .inr (6, [.ref a_V_sets, .ref a_V_shares, .int 0, .int v_V_fewest, .int 0]))]) B inlX6 tyX6_ok nmX6 hP hD hS 0 rfl rfl 2 rfl mfl_X6_18 rfl rfl rfl rfl rfl rfl dX6_clear_7 (fun H locs hP hD hS => ?_)
  exact uRv (0, 0) B ⟨(by (try dsimp only); omega), (Or.inl rfl)⟩ (uSub hP [0] rfl) (hD.sub [0] rfl rfl) hS dX6_clear_10
def qwX6_take (a_V : Nat) (v_V_size : Nat) (v_V_fewest : Int32) (v_V_any : Int32) (a_V_sets : Nat) (f_V_sets : Nat → Int32) (a_V_shares : Nat) (x0 : Int32) (x1 : Int32) : (Nat × Int32 × (Nat → Int32)) → Prop := (fun (u : Nat × Int32 × (Nat → Int32)) => (u.1 ≤ 252))
def vwX6_take (K : Nat → ClassId) (a_V : Nat) (v_V_size : Nat) (v_V_fewest : Int32) (v_V_any : Int32) (a_V_sets : Nat) (f_V_sets : Nat → Int32) (a_V_shares : Nat) (x0 : Int32) (x1 : Int32) : (Nat × Int32 × (Nat → Int32)) → va_W := (fun (u : Nat × Int32 × (Nat → Int32)) => [(a_V, .inr (6, [.ref a_V_sets, .ref a_V_shares, .int (nI ((u.1))), .int u.2.1, .int v_V_any])), (a_V_sets, .inl (K 0, 252, .inl (u.2.2)))])
set_option maxHeartbeats 4000000 in
set_option maxRecDepth 100000 in
theorem wX6_take (l : Launch) (D : va_G) (K : Nat → ClassId) (sz : Nat) (a_V : Nat) (v_V_size : Nat) (v_V_fewest : Int32) (v_V_any : Int32) (a_V_sets : Nat) (f_V_sets : Nat → Int32) (a_V_shares : Nat) (x0 : Int32) (x1 : Int32) (hv_V_size : v_V_size ≤ 252) (hv_V_any : v_V_any = 0 ∨ v_V_any = 1) : uMv l yX6_take cX6_take 3 { frames := 0, cells := 0, slots := 0, locals := 0 } [.ref a_V, .int x0, .int x1] D K [(a_V, .inr (6, [.ref a_V_sets, .ref a_V_shares, .int (nI v_V_size), .int v_V_fewest, .int v_V_any])), (a_V_sets, .inl (K 0, 252, .inl f_V_sets))] sz (qwX6_take a_V v_V_size v_V_fewest v_V_any a_V_sets f_V_sets a_V_shares x0 x1) (vwX6_take K a_V v_V_size v_V_fewest v_V_any a_V_sets f_V_sets a_V_shares x0 x1) := by
  refine uMet (Qc := uQv D (qwX6_take a_V v_V_size v_V_fewest v_V_any a_V_sets f_V_sets a_V_shares x0 x1) (vwX6_take K a_V v_V_size v_V_fewest v_V_any a_V_sets f_V_sets a_V_shares x0 x1)) (ret := none) (by decide) (Nat.le_of_ble_eq_true rfl) ?_
  intro p e s m below meth c A ls hAe hsz B hP hD hS hl
  have hx := B.1
  have hb := B.2.1
  have hl : lv_has ls 3 [(0, .ref a_V), (1, .int x0), (2, .int x1)] := hl
  refine lv_iload_n hx hb dX6_take_0 rfl (lv_at hl 2 rfl) ?_
  refine lv_aload_n hx hb dX6_take_1 rfl (lv_at hl 0 rfl) ?_
  refine uGet (ci := 6) (C := RX6) (T := TX6) (N := 5) (v := .int v_V_fewest) B inlX6 hP 0 rfl rfl 3 rfl mfl_X6_22 rfl rfl dX6_take_2 ?_
  refine lv_icmp_ge (tgt := 18) hx hb dX6_take_5 (by decide) (fun c1 => ?_) (fun c1 => ?_)
  · refine lv_aload_n hx hb dX6_take_18 rfl (lv_at hl 0 rfl) ?_
    refine lv_pc (q := 19) rfl ?_
    refine uGet (ci := 6) (C := RX6) (T := TX6) (N := 5) (v := .int (nI v_V_size)) B inlX6 hP 0 rfl rfl 2 rfl mfl_X6_18 rfl rfl dX6_take_19 ?_
    refine lv_sipush (v := 252) hx hb dX6_take_22 (by decide) ?_
    refine lv_icmp_ge (tgt := 48) hx hb dX6_take_25 (by decide) (fun c2 => ?_) (fun c2 => ?_)
    · have k_2 : 252 ≤ v_V_size := (nI_leI (a := 252) (b := v_V_size) (by omega) (by omega)).mp c2
      exact uRv (v_V_size, v_V_fewest, f_V_sets) B (by unfold qwX6_take; (try dsimp only); omega) (uSub hP [0, 1] rfl) (hD.sub [0, 1] rfl rfl) hS dX6_take_48
    have k_2 : ¬ 252 ≤ v_V_size := fun h9 => c2 ((nI_leI (a := 252) (b := v_V_size) (by omega) (by omega)).mpr h9)
    refine lv_aload_n hx hb dX6_take_28 rfl (lv_at hl 0 rfl) ?_
    refine uGet (ci := 6) (C := RX6) (T := TX6) (N := 5) (v := .ref a_V_sets) B inlX6 hP 0 rfl rfl 0 rfl mfl_X6_11 rfl rfl dX6_take_29 ?_
    refine lv_aload_n hx hb dX6_take_32 rfl (lv_at hl 0 rfl) ?_
    refine lv_pc (q := 33) rfl ?_
    refine uGet (ci := 6) (C := RX6) (T := TX6) (N := 5) (v := .int (nI v_V_size)) B inlX6 hP 0 rfl rfl 2 rfl mfl_X6_18 rfl rfl dX6_take_33 ?_
    refine lv_iload_n hx hb dX6_take_36 rfl (lv_at hl 1 rfl) ?_
    refine uIast (i := (nI v_V_size)) (j := v_V_size) (ws' := [(a_V, .inr (6, [.ref a_V_sets, .ref a_V_shares, .int (nI v_V_size), .int v_V_fewest, .int v_V_any])), (a_V_sets, .inl (K 0, 252, .inl (upd f_V_sets v_V_size x0)))]) B hP hD hS 1 rfl (nI_in (by omega) (by omega)) (nI_clamp (by omega)) rfl dX6_take_37 (fun H locs hP hD hS => ?_)
    refine lv_aload_n hx hb dX6_take_38 rfl (lv_at hl 0 rfl) ?_
    refine lv_dup hx hb dX6_take_39 rfl ?_
    refine uGet (ci := 6) (C := RX6) (T := TX6) (N := 5) (v := .int (nI v_V_size)) B inlX6 hP 0 rfl rfl 2 rfl mfl_X6_18 rfl rfl dX6_take_40 ?_
    refine lv_pc (q := 43) rfl ?_
    refine lv_iconst (v := 1) hx hb dX6_take_43 (by decide) ?_
    refine lv_iadd hx hb dX6_take_44 ?_
    refine lv_fixi (y := (nI (v_V_size + 1))) (by rw [show (1 : Int32) = nI 1 from rfl, nI_add]) ?_
    refine uPut (ci := 6) (C := RX6) (T := TX6) (N := 5) (ws' := [(a_V, .inr (6, [.ref a_V_sets, .ref a_V_shares, .int (nI (v_V_size + 1)), .int v_V_fewest, .int v_V_any])), (a_V_sets, .inl (K 0, 252, .inl (upd f_V_sets v_V_size x0)))]) B inlX6 tyX6_ok nmX6 hP hD hS 0 rfl rfl 2 rfl mfl_X6_18 rfl rfl rfl rfl rfl rfl dX6_take_45 (fun H locs hP hD hS => ?_)
    exact uRv (v_V_size + 1, v_V_fewest, upd f_V_sets v_V_size x0) B (by unfold qwX6_take; (try dsimp only); omega) (uSub hP [0, 1] rfl) (hD.sub [0, 1] rfl rfl) hS dX6_take_48
  refine lv_aload_n hx hb dX6_take_8 rfl (lv_at hl 0 rfl) ?_
  refine lv_pc (q := 9) rfl ?_
  refine lv_iload_n hx hb dX6_take_9 rfl (lv_at hl 2 rfl) ?_
  refine uPut (ci := 6) (C := RX6) (T := TX6) (N := 5) (ws' := [(a_V, .inr (6, [.ref a_V_sets, .ref a_V_shares, .int (nI v_V_size), .int x1, .int v_V_any])), (a_V_sets, .inl (K 0, 252, .inl f_V_sets))]) B inlX6 tyX6_ok nmX6 hP hD hS 0 rfl rfl 3 rfl mfl_X6_22 rfl rfl rfl rfl rfl rfl dX6_take_10 (fun H locs hP hD hS => ?_)
  refine lv_aload_n hx hb dX6_take_13 rfl (lv_at hl 0 rfl) ?_
  refine lv_iconst (v := 0) hx hb dX6_take_14 (by decide) ?_
  refine uPut (ci := 6) (C := RX6) (T := TX6) (N := 5) (ws' := [(a_V, .inr (6, [.ref a_V_sets, .ref a_V_shares, .int 0, .int x1, .int v_V_any])), (a_V_sets, .inl (K 0, 252, .inl f_V_sets))]) B inlX6 tyX6_ok nmX6 hP hD hS 0 rfl rfl 2 rfl mfl_X6_18 rfl rfl rfl rfl rfl rfl dX6_take_15 (fun H locs hP hD hS => ?_)
  refine lv_aload_n hx hb dX6_take_18 rfl (lv_at hl 0 rfl) ?_
  refine lv_pc (q := 19) rfl ?_
  refine uGet (ci := 6) (C := RX6) (T := TX6) (N := 5) (v := .int 0) B inlX6 hP 0 rfl rfl 2 rfl mfl_X6_18 rfl rfl dX6_take_19 ?_
  refine lv_sipush (v := 252) hx hb dX6_take_22 (by decide) ?_
  refine lv_icmp_ge (tgt := 48) hx hb dX6_take_25 (by decide) (fun h9 => absurd h9 (by decide)) (fun _ => ?_)
  refine lv_aload_n hx hb dX6_take_28 rfl (lv_at hl 0 rfl) ?_
  refine uGet (ci := 6) (C := RX6) (T := TX6) (N := 5) (v := .ref a_V_sets) B inlX6 hP 0 rfl rfl 0 rfl mfl_X6_11 rfl rfl dX6_take_29 ?_
  refine lv_aload_n hx hb dX6_take_32 rfl (lv_at hl 0 rfl) ?_
  refine lv_pc (q := 33) rfl ?_
  refine uGet (ci := 6) (C := RX6) (T := TX6) (N := 5) (v := .int 0) B inlX6 hP 0 rfl rfl 2 rfl mfl_X6_18 rfl rfl dX6_take_33 ?_
  refine lv_iload_n hx hb dX6_take_36 rfl (lv_at hl 1 rfl) ?_
  refine uIast (i := 0) (j := 0) (ws' := [(a_V, .inr (6, [.ref a_V_sets, .ref a_V_shares, .int 0, .int x1, .int v_V_any])), (a_V_sets, .inl (K 0, 252, .inl (upd f_V_sets 0 x0)))]) B hP hD hS 1 rfl (by decide) rfl rfl dX6_take_37 (fun H locs hP hD hS => ?_)
  refine lv_aload_n hx hb dX6_take_38 rfl (lv_at hl 0 rfl) ?_
  refine lv_dup hx hb dX6_take_39 rfl ?_
  refine uGet (ci := 6) (C := RX6) (T := TX6) (N := 5) (v := .int 0) B inlX6 hP 0 rfl rfl 2 rfl mfl_X6_18 rfl rfl dX6_take_40 ?_
  refine lv_pc (q := 43) rfl ?_
  refine lv_iconst (v := 1) hx hb dX6_take_43 (by decide) ?_
  refine lv_iadd hx hb dX6_take_44 ?_
  refine lv_fixi (y := 1) (by decide) ?_
  refine uPut (ci := 6) (C := RX6) (T := TX6) (N := 5) (ws' := [(a_V, .inr (6, [.ref a_V_sets, .ref a_V_shares, .int 1, .int x1, .int v_V_any])), (a_V_sets, .inl (K 0, 252, .inl (upd f_V_sets 0 x0)))]) B inlX6 tyX6_ok nmX6 hP hD hS 0 rfl rfl 2 rfl mfl_X6_18 rfl rfl rfl rfl rfl rfl dX6_take_45 (fun H locs hP hD hS => ?_)
  exact uRv (1, x1, upd f_V_sets 0 x0) B (by unfold qwX6_take; (try dsimp only); omega) (uSub hP [0, 1] rfl) (hD.sub [0, 1] rfl rfl) hS dX6_take_48
def qwX6_gather (a_V : Nat) (v_V_size : Nat) (v_V_fewest : Int32) (v_V_any : Int32) (a_L : Nat) (v_L_found : Int32) (v_L_supposed : Int32) (a_L_near : Nat) (f_L_near : Nat → Int32) (a_V_sets : Nat) (f_V_sets : Nat → Int32) (a_V_shares : Nat) (a_P : Nat) (a_N : Nat) (a_S : Nat) (a_L_clear : Nat) : (Nat × Int32 × (Nat → Int32)) → Prop := (fun (u : Nat × Int32 × (Nat → Int32)) => (u.1 ≤ 252))
def vwX6_gather (K : Nat → ClassId) (a_V : Nat) (v_V_size : Nat) (v_V_fewest : Int32) (v_V_any : Int32) (a_L : Nat) (v_L_found : Int32) (v_L_supposed : Int32) (a_L_near : Nat) (f_L_near : Nat → Int32) (a_V_sets : Nat) (f_V_sets : Nat → Int32) (a_V_shares : Nat) (a_P : Nat) (a_N : Nat) (a_S : Nat) (a_L_clear : Nat) : (Nat × Int32 × (Nat → Int32)) → va_W := (fun (u : Nat × Int32 × (Nat → Int32)) => [(a_V, .inr (6, [.ref a_V_sets, .ref a_V_shares, .int (nI ((u.1))), .int u.2.1, .int v_V_any])), (a_L, .inr (1, [.ref a_P, .ref a_N, .ref a_S, .ref a_L_near, .ref a_L_clear, .int v_L_found, .int v_L_supposed])), (a_L_near, .inl (K 0, 12, .inl f_L_near)), (a_V_sets, .inl (K 0, 252, .inl (u.2.2)))])
set_option maxHeartbeats 4000000 in
set_option maxRecDepth 100000 in
theorem wX6_gather (l : Launch) (D : va_G) (K : Nat → ClassId) (sz : Nat) (a_V : Nat) (v_V_size : Nat) (v_V_fewest : Int32) (v_V_any : Int32) (a_L : Nat) (v_L_found : Int32) (v_L_supposed : Int32) (a_L_near : Nat) (f_L_near : Nat → Int32) (a_V_sets : Nat) (f_V_sets : Nat → Int32) (a_V_shares : Nat) (a_P : Nat) (a_N : Nat) (a_S : Nat) (a_L_clear : Nat) (hv_V_size : v_V_size ≤ 252) (hv_V_any : v_V_any = 0 ∨ v_V_any = 1) : uMv l yX6_gather cX6_gather 6 { frames := 3, cells := 0, slots := 0, locals := 70 } [.ref a_V, .ref a_L] D K [(a_V, .inr (6, [.ref a_V_sets, .ref a_V_shares, .int (nI v_V_size), .int v_V_fewest, .int v_V_any])), (a_L, .inr (1, [.ref a_P, .ref a_N, .ref a_S, .ref a_L_near, .ref a_L_clear, .int v_L_found, .int v_L_supposed])), (a_L_near, .inl (K 0, 12, .inl f_L_near)), (a_V_sets, .inl (K 0, 252, .inl f_V_sets))] sz (qwX6_gather a_V v_V_size v_V_fewest v_V_any a_L v_L_found v_L_supposed a_L_near f_L_near a_V_sets f_V_sets a_V_shares a_P a_N a_S a_L_clear) (vwX6_gather K a_V v_V_size v_V_fewest v_V_any a_L v_L_found v_L_supposed a_L_near f_L_near a_V_sets f_V_sets a_V_shares a_P a_N a_S a_L_clear) := by
  refine uMet (Qc := uQv D (qwX6_gather a_V v_V_size v_V_fewest v_V_any a_L v_L_found v_L_supposed a_L_near f_L_near a_V_sets f_V_sets a_V_shares a_P a_N a_S a_L_clear) (vwX6_gather K a_V v_V_size v_V_fewest v_V_any a_L v_L_found v_L_supposed a_L_near f_L_near a_V_sets f_V_sets a_V_shares a_P a_N a_S a_L_clear)) (ret := none) (by decide) (Nat.le_of_ble_eq_true rfl) ?_
  intro p e s m below meth c A ls hAe hsz B hP hD hS hl
  have hx := B.1
  have hb := B.2.1
  have hl : lv_has ls 6 [(0, .ref a_V), (1, .ref a_L)] := hl
  refine lv_aload_n hx hb dX6_gather_0 rfl (lv_at hl 1 rfl) ?_
  refine uGet (ci := 1) (C := RX1) (T := TX1) (N := 7) (v := .int v_L_supposed) B inlX1 hP 1 rfl rfl 6 rfl mfl_X6_32 rfl rfl dX6_gather_1 ?_
  refine lv_istore_n (lv' := [(2, .int v_L_supposed), (0, .ref a_V), (1, .ref a_L)]) hx hb dX6_gather_4 rfl hl (by decide) rfl (fun ls hl => ?_)
  refine lv_iconst (v := 0) hx hb dX6_gather_5 (by decide) ?_
  refine lv_istore_n (lv' := [(3, .int 0), (2, .int v_L_supposed), (0, .ref a_V), (1, .ref a_L)]) hx hb dX6_gather_6 rfl hl (by decide) rfl (fun ls hl => ?_)
  refine lv_pc (q := 7) rfl ?_
  refine lv_aload_n hx hb dX6_gather_7 rfl (lv_at hl 2 rfl) ?_
  refine lv_bipush (v := 12) hx hb dX6_gather_8 (by decide) ?_
  refine uPut (ci := 6) (C := RX6) (T := TX6) (N := 5) (ws' := [(a_V, .inr (6, [.ref a_V_sets, .ref a_V_shares, .int (nI v_V_size), .int 12, .int v_V_any])), (a_L, .inr (1, [.ref a_P, .ref a_N, .ref a_S, .ref a_L_near, .ref a_L_clear, .int v_L_found, .int v_L_supposed])), (a_L_near, .inl (K 0, 12, .inl f_L_near)), (a_V_sets, .inl (K 0, 252, .inl f_V_sets))]) B inlX6 tyX6_ok nmX6 hP hD hS 0 rfl rfl 3 rfl mfl_X6_22 rfl rfl rfl rfl rfl rfl dX6_gather_10 (fun H locs hP hD hS => ?_)
  refine lv_iconst (v := 0) hx hb dX6_gather_13 (by decide) ?_
  refine lv_istore (lv' := [(4, .int 0), (3, .int 0), (2, .int v_L_supposed), (0, .ref a_V), (1, .ref a_L)]) hx hb dX6_gather_14 hl (by decide) rfl (fun ls hl => ?_)
  have L7 : ∀ (n9 : Nat) (j1 : Nat) (y2 : Int32) (y3 : Nat) (y4 : Int32) (f5 : Nat → Int32), (j1 ≤ 4096) → (y3 ≤ 252) → 4096 - j1 < n9 → ∀ (H : Heap) (locs : List Loc) (ls : Array Slot), va_P D vwCl [(a_V, .inr (6, [.ref a_V_sets, .ref a_V_shares, .int (nI y3), .int y4, .int v_V_any])), (a_L, .inr (1, [.ref a_P, .ref a_N, .ref a_S, .ref a_L_near, .ref a_L_clear, .int v_L_found, .int v_L_supposed])), (a_L_near, .inl (K 0, 12, .inl f_L_near)), (a_V_sets, .inl (K 0, 252, .inl f5))] H → va_D A [(a_V, .inr (6, [.ref a_V_sets, .ref a_V_shares, .int (nI y3), .int y4, .int v_V_any])), (a_L, .inr (1, [.ref a_P, .ref a_N, .ref a_S, .ref a_L_near, .ref a_L_clear, .int v_L_found, .int v_L_supposed])), (a_L_near, .inl (K 0, 12, .inl f_L_near)), (a_V_sets, .inl (K 0, 252, .inl f5))] → va_S A s.heap H locs → lv_has ls 6 [(4, .int (nI j1)), (3, .int y2), (2, .int v_L_supposed), (0, .ref a_V), (1, .ref a_L)] → W p l e { frames := 3, cells := 0, slots := 0, locals := 70 } s m ([.ref a_V, .ref a_L] : List Value).toArray below meth c H locs 0 0 (MQ below (uQv D (qwX6_gather a_V v_V_size v_V_fewest v_V_any a_L v_L_found v_L_supposed a_L_near f_L_near a_V_sets f_V_sets a_V_shares a_P a_N a_S a_L_clear) (vwX6_gather K a_V v_V_size v_V_fewest v_V_any a_L v_L_found v_L_supposed a_L_near f_L_near a_V_sets f_V_sets a_V_shares a_P a_N a_S a_L_clear) A) ([.ref a_V, .ref a_L] : List Value).toArray s 0 0 A) (F0 m 16 ls []) := by
    intro n9
    induction n9 with
    | zero => intros; exact absurd ‹_ < 0› (Nat.not_lt_zero _)
    | succ n16_ ih16 =>
      intro j1 y2 y3 y4 f5 hj1 hy3 hm16 H locs ls hP hD hS hl
      refine lv_iload hx hb dX6_gather_16 (lv_at hl 0 rfl) ?_
      refine lv_pc (q := 18) rfl ?_
      refine lv_sipush (v := 4096) hx hb dX6_gather_18 (by decide) ?_
      refine lv_icmp_ge (tgt := 80) hx hb dX6_gather_21 (by decide) (fun c8 => ?_) (fun c8 => ?_)
      · have k_8 : 4096 ≤ j1 := (nI_leI (a := 4096) (b := j1) (by omega) (by omega)).mp c8
        exact uRv (y3, y4, f5) B (by unfold qwX6_gather; (try dsimp only); omega) (uSub hP [0, 1, 2, 3] rfl) (hD.sub [0, 1, 2, 3] rfl rfl) hS dX6_gather_80
      have k_8 : ¬ 4096 ≤ j1 := fun h9 => c8 ((nI_leI (a := 4096) (b := j1) (by omega) (by omega)).mpr h9)
      refine lv_iload_n hx hb dX6_gather_24 rfl (lv_at hl 1 rfl) ?_
      refine uSi (As := [.int y2]) (rest := []) (wr := [(a_V, .inr (6, [.ref a_V_sets, .ref a_V_shares, .int (nI y3), .int y4, .int v_V_any])), (a_L, .inr (1, [.ref a_P, .ref a_N, .ref a_S, .ref a_L_near, .ref a_L_clear, .int v_L_found, .int v_L_supposed])), (a_L_near, .inl (K 0, 12, .inl f_L_near)), (a_V_sets, .inl (K 0, 252, .inl f5))]) [] B hl.1 hP hD hS [] [0, 1, 2, 3] rfl rfl rfl (wJ6_bitCount_0f7a4 l D K _ y2) wd_J6_bitCount_0f7a4 mml_X6_48 rfl rfl ⟨Nat.le_of_ble_eq_true rfl, Nat.le_of_ble_eq_true rfl⟩ (Nat.le_of_ble_eq_true rfl) ⟨Nat.le_of_ble_eq_true rfl, Nat.le_of_ble_eq_true rfl⟩ dX6_gather_25 (fun r9 u H locs hw hP hD hS => ?_)
      try dsimp only at hw
      have hP : va_P D vwCl [(a_V, .inr (6, [.ref a_V_sets, .ref a_V_shares, .int (nI y3), .int y4, .int v_V_any])), (a_L, .inr (1, [.ref a_P, .ref a_N, .ref a_S, .ref a_L_near, .ref a_L_clear, .int v_L_found, .int v_L_supposed])), (a_L_near, .inl (K 0, 12, .inl f_L_near)), (a_V_sets, .inl (K 0, 252, .inl f5))] H := hP
      have hD := uDPJ hP hD
      refine lv_istore (lv' := [(5, .int r9), (4, .int (nI j1)), (3, .int y2), (2, .int v_L_supposed), (0, .ref a_V), (1, .ref a_L)]) hx hb dX6_gather_28 hl (by decide) rfl (fun ls hl => ?_)
      refine lv_iload hx hb dX6_gather_30 (lv_at hl 0 rfl) ?_
      refine lv_pc (q := 32) rfl ?_
      refine lv_aload_n hx hb dX6_gather_32 rfl (lv_at hl 4 rfl) ?_
      refine uGet (ci := 6) (C := RX6) (T := TX6) (N := 5) (v := .int y4) B inlX6 hP 0 rfl rfl 3 rfl mfl_X6_22 rfl rfl dX6_gather_33 ?_
      refine lv_icmp_gt (tgt := 54) hx hb dX6_gather_36 (by decide) (fun c10 => ?_) (fun c10 => ?_)
      · refine lv_iload_n hx hb dX6_gather_54 rfl (lv_at hl 2 rfl) ?_
        refine lv_iload_n hx hb dX6_gather_55 rfl (lv_at hl 3 rfl) ?_
        refine lv_isub hx hb dX6_gather_56 ?_
        refine lv_pc (q := 57) rfl ?_
        refine lv_iload_n hx hb dX6_gather_57 rfl (lv_at hl 3 rfl) ?_
        refine lv_iand hx hb dX6_gather_58 ?_
        refine lv_istore_n (lv' := [(3, .int ((y2 - v_L_supposed) &&& v_L_supposed)), (5, .int r9), (4, .int (nI j1)), (2, .int v_L_supposed), (0, .ref a_V), (1, .ref a_L)]) hx hb dX6_gather_59 rfl hl (by decide) rfl (fun ls hl => ?_)
        refine lv_iload_n hx hb dX6_gather_60 rfl (lv_at hl 0 rfl) ?_
        refine lv_if_eq (tgt := 80) hx hb dX6_gather_61 (by decide) (fun c11 => ?_) (fun c11 => ?_)
        · exact uRv (y3, y4, f5) B (by unfold qwX6_gather; (try dsimp only); omega) (uSub hP [0, 1, 2, 3] rfl) (hD.sub [0, 1, 2, 3] rfl rfl) hS dX6_gather_80
        refine lv_aload_n hx hb dX6_gather_64 rfl (lv_at hl 4 rfl) ?_
        refine lv_pc (q := 65) rfl ?_
        refine uGet (ci := 6) (C := RX6) (T := TX6) (N := 5) (v := .int y4) B inlX6 hP 0 rfl rfl 3 rfl mfl_X6_22 rfl rfl dX6_gather_65 ?_
        refine lv_if_ne (tgt := 74) hx hb dX6_gather_68 (by decide) (fun c12 => ?_) (fun c12 => ?_)
        · refine lv_iinc (v := nI (j1 + 1)) (lv' := [(4, .int (nI (j1 + 1))), (3, .int ((y2 - v_L_supposed) &&& v_L_supposed)), (5, .int r9), (2, .int v_L_supposed), (0, .ref a_V), (1, .ref a_L)]) hx hb dX6_gather_74 hl (k := 2) rfl (nI_1 _) (by decide) rfl (fun ls hl => ?_)
          refine lv_goto (tgt := 16) hx hb dX6_gather_77 (by decide) ?_
          refine lv_pc (q := 16) rfl ?_
          refine W.widen (k := 0) (n := 0) (Nat.le_of_ble_eq_true rfl) (Nat.le_of_ble_eq_true rfl) ?_
          exact ih16 (j1 + 1) ((y2 - v_L_supposed) &&& v_L_supposed) y3 y4 f5 (by omega) (by omega) (by omega) _ _ _ (uSub hP [0, 1, 2, 3] rfl) (hD.sub [0, 1, 2, 3] rfl rfl) hS (lv_sub hl [0, 1, 3, 4, 5] rfl)
        refine lv_goto (tgt := 80) hx hb dX6_gather_71 (by decide) ?_
        exact uRv (y3, y4, f5) B (by unfold qwX6_gather; (try dsimp only); omega) (uSub hP [0, 1, 2, 3] rfl) (hD.sub [0, 1, 2, 3] rfl rfl) hS dX6_gather_80
      refine lv_aload_n hx hb dX6_gather_39 rfl (lv_at hl 5 rfl) ?_
      refine lv_iload_n hx hb dX6_gather_40 rfl (lv_at hl 2 rfl) ?_
      refine uVi (As := [.int y2]) (rest := []) (wr := [(a_V, .inr (6, [.ref a_V_sets, .ref a_V_shares, .int (nI y3), .int y4, .int v_V_any])), (a_V_sets, .inl (K 0, 252, .inl f5))]) [(a_L, .inr (1, [.ref a_P, .ref a_N, .ref a_S, .ref a_L_near, .ref a_L_clear, .int v_L_found, .int v_L_supposed])), (a_L_near, .inl (K 0, 12, .inl f_L_near))] B hl.1 hP hD hS [1, 2] [0, 3] rfl rfl rfl (wX1_isOneWith l D K _ a_L v_L_found v_L_supposed a_L_near f_L_near a_P a_N a_S a_L_clear y2) wd_X1_isOneWith mml_X6_37 rfl rfl rfl rfl ⟨Nat.le_of_ble_eq_true rfl, Nat.le_of_ble_eq_true rfl⟩ (Nat.le_of_ble_eq_true rfl) ⟨Nat.le_of_ble_eq_true rfl, Nat.le_of_ble_eq_true rfl⟩ dX6_gather_41 (fun r13 u H locs hw hP hD hS => ?_)
      try dsimp only at hw
      have w14 := hw
      have hP : va_P D vwCl [(a_V, .inr (6, [.ref a_V_sets, .ref a_V_shares, .int (nI y3), .int y4, .int v_V_any])), (a_V_sets, .inl (K 0, 252, .inl f5)), (a_L, .inr (1, [.ref a_P, .ref a_N, .ref a_S, .ref a_L_near, .ref a_L_clear, .int v_L_found, .int v_L_supposed])), (a_L_near, .inl (K 0, 12, .inl f_L_near))] H := hP
      have hD := uDPJ hP hD
      rcases w14 with rfl | rfl
      · refine lv_pc (q := 44) rfl ?_
        refine lv_if_eq (tgt := 54) hx hb dX6_gather_44 (by decide) (fun _ => ?_) (fun h9 => absurd (by decide) h9)
        refine lv_iload_n hx hb dX6_gather_54 rfl (lv_at hl 2 rfl) ?_
        refine lv_iload_n hx hb dX6_gather_55 rfl (lv_at hl 3 rfl) ?_
        refine lv_isub hx hb dX6_gather_56 ?_
        refine lv_iload_n hx hb dX6_gather_57 rfl (lv_at hl 3 rfl) ?_
        refine lv_iand hx hb dX6_gather_58 ?_
        refine lv_pc (q := 59) rfl ?_
        refine lv_istore_n (lv' := [(3, .int ((y2 - v_L_supposed) &&& v_L_supposed)), (5, .int r9), (4, .int (nI j1)), (2, .int v_L_supposed), (0, .ref a_V), (1, .ref a_L)]) hx hb dX6_gather_59 rfl hl (by decide) rfl (fun ls hl => ?_)
        refine lv_iload_n hx hb dX6_gather_60 rfl (lv_at hl 0 rfl) ?_
        refine lv_if_eq (tgt := 80) hx hb dX6_gather_61 (by decide) (fun c15 => ?_) (fun c15 => ?_)
        · exact uRv (y3, y4, f5) B (by unfold qwX6_gather; (try dsimp only); omega) (uSub hP [0, 2, 3, 1] rfl) (hD.sub [0, 2, 3, 1] rfl rfl) hS dX6_gather_80
        refine lv_aload_n hx hb dX6_gather_64 rfl (lv_at hl 4 rfl) ?_
        refine uGet (ci := 6) (C := RX6) (T := TX6) (N := 5) (v := .int y4) B inlX6 hP 0 rfl rfl 3 rfl mfl_X6_22 rfl rfl dX6_gather_65 ?_
        refine lv_if_ne (tgt := 74) hx hb dX6_gather_68 (by decide) (fun c16 => ?_) (fun c16 => ?_)
        · refine lv_pc (q := 74) rfl ?_
          refine lv_iinc (v := nI (j1 + 1)) (lv' := [(4, .int (nI (j1 + 1))), (3, .int ((y2 - v_L_supposed) &&& v_L_supposed)), (5, .int r9), (2, .int v_L_supposed), (0, .ref a_V), (1, .ref a_L)]) hx hb dX6_gather_74 hl (k := 2) rfl (nI_1 _) (by decide) rfl (fun ls hl => ?_)
          refine lv_goto (tgt := 16) hx hb dX6_gather_77 (by decide) ?_
          refine lv_pc (q := 16) rfl ?_
          refine W.widen (k := 0) (n := 0) (Nat.le_of_ble_eq_true rfl) (Nat.le_of_ble_eq_true rfl) ?_
          exact ih16 (j1 + 1) ((y2 - v_L_supposed) &&& v_L_supposed) y3 y4 f5 (by omega) (by omega) (by omega) _ _ _ (uSub hP [0, 2, 3, 1] rfl) (hD.sub [0, 2, 3, 1] rfl rfl) hS (lv_sub hl [0, 1, 3, 4, 5] rfl)
        refine lv_pc (q := 71) rfl ?_
        refine lv_goto (tgt := 80) hx hb dX6_gather_71 (by decide) ?_
        exact uRv (y3, y4, f5) B (by unfold qwX6_gather; (try dsimp only); omega) (uSub hP [0, 2, 3, 1] rfl) (hD.sub [0, 2, 3, 1] rfl rfl) hS dX6_gather_80
      refine lv_pc (q := 44) rfl ?_
      refine lv_if_eq (tgt := 54) hx hb dX6_gather_44 (by decide) (fun h9 => absurd h9 (by decide)) (fun _ => ?_)
      refine lv_aload_n hx hb dX6_gather_47 rfl (lv_at hl 4 rfl) ?_
      refine lv_iload_n hx hb dX6_gather_48 rfl (lv_at hl 2 rfl) ?_
      refine lv_iload hx hb dX6_gather_49 (lv_at hl 0 rfl) ?_
      refine uVv (As := [.int y2, .int r9]) (rest := []) (wr := [(a_L, .inr (1, [.ref a_P, .ref a_N, .ref a_S, .ref a_L_near, .ref a_L_clear, .int v_L_found, .int v_L_supposed])), (a_L_near, .inl (K 0, 12, .inl f_L_near))]) [(a_V, .inr (6, [.ref a_V_sets, .ref a_V_shares, .int (nI y3), .int y4, .int v_V_any])), (a_V_sets, .inl (K 0, 252, .inl f5))] B hl.1 hP hD hS [0, 1] [2, 3] rfl rfl rfl (wX6_take l D K _ a_V y3 y4 v_V_any a_V_sets f5 a_V_shares y2 r9 (by omega) hv_V_any) wd_X6_take mml_X6_54 rfl rfl rfl rfl ⟨Nat.le_of_ble_eq_true rfl, Nat.le_of_ble_eq_true rfl⟩ (Nat.le_of_ble_eq_true rfl) ⟨Nat.le_of_ble_eq_true rfl, Nat.le_of_ble_eq_true rfl⟩ dX6_gather_51 (fun u H locs hw hP hD hS => ?_)
      obtain ⟨u18, u19, u20⟩ := u
      try dsimp only at hw
      have w21 : u18 ≤ 252 := hw
      have hP : va_P D vwCl [(a_L, .inr (1, [.ref a_P, .ref a_N, .ref a_S, .ref a_L_near, .ref a_L_clear, .int v_L_found, .int v_L_supposed])), (a_L_near, .inl (K 0, 12, .inl f_L_near)), (a_V, .inr (6, [.ref a_V_sets, .ref a_V_shares, .int (nI u18), .int u19, .int v_V_any])), (a_V_sets, .inl (K 0, 252, .inl u20))] H := hP
      have hD := uDPJ hP hD
      refine lv_iload_n hx hb dX6_gather_54 rfl (lv_at hl 2 rfl) ?_
      refine lv_pc (q := 55) rfl ?_
      refine lv_iload_n hx hb dX6_gather_55 rfl (lv_at hl 3 rfl) ?_
      refine lv_isub hx hb dX6_gather_56 ?_
      refine lv_iload_n hx hb dX6_gather_57 rfl (lv_at hl 3 rfl) ?_
      refine lv_iand hx hb dX6_gather_58 ?_
      refine lv_istore_n (lv' := [(3, .int ((y2 - v_L_supposed) &&& v_L_supposed)), (5, .int r9), (4, .int (nI j1)), (2, .int v_L_supposed), (0, .ref a_V), (1, .ref a_L)]) hx hb dX6_gather_59 rfl hl (by decide) rfl (fun ls hl => ?_)
      refine lv_iload_n hx hb dX6_gather_60 rfl (lv_at hl 0 rfl) ?_
      refine lv_pc (q := 61) rfl ?_
      refine lv_if_eq (tgt := 80) hx hb dX6_gather_61 (by decide) (fun c22 => ?_) (fun c22 => ?_)
      · exact uRv (u18, u19, u20) B (by unfold qwX6_gather; (try dsimp only); omega) (uSub hP [2, 0, 1, 3] rfl) (hD.sub [2, 0, 1, 3] rfl rfl) hS dX6_gather_80
      refine lv_aload_n hx hb dX6_gather_64 rfl (lv_at hl 4 rfl) ?_
      refine uGet (ci := 6) (C := RX6) (T := TX6) (N := 5) (v := .int u19) B inlX6 hP 2 rfl rfl 3 rfl mfl_X6_22 rfl rfl dX6_gather_65 ?_
      refine lv_if_ne (tgt := 74) hx hb dX6_gather_68 (by decide) (fun c23 => ?_) (fun c23 => ?_)
      · refine lv_iinc (v := nI (j1 + 1)) (lv' := [(4, .int (nI (j1 + 1))), (3, .int ((y2 - v_L_supposed) &&& v_L_supposed)), (5, .int r9), (2, .int v_L_supposed), (0, .ref a_V), (1, .ref a_L)]) hx hb dX6_gather_74 hl (k := 2) rfl (nI_1 _) (by decide) rfl (fun ls hl => ?_)
        refine lv_goto (tgt := 16) hx hb dX6_gather_77 (by decide) ?_
        refine lv_pc (q := 16) rfl ?_
        refine W.widen (k := 0) (n := 0) (Nat.le_of_ble_eq_true rfl) (Nat.le_of_ble_eq_true rfl) ?_
        exact ih16 (j1 + 1) ((y2 - v_L_supposed) &&& v_L_supposed) u18 u19 u20 (by omega) (by omega) (by omega) _ _ _ (uSub hP [2, 0, 1, 3] rfl) (hD.sub [2, 0, 1, 3] rfl rfl) hS (lv_sub hl [0, 1, 3, 4, 5] rfl)
      refine lv_goto (tgt := 80) hx hb dX6_gather_71 (by decide) ?_
      exact uRv (u18, u19, u20) B (by unfold qwX6_gather; (try dsimp only); omega) (uSub hP [2, 0, 1, 3] rfl) (hD.sub [2, 0, 1, 3] rfl rfl) hS dX6_gather_80
  refine lv_pc (q := 16) rfl ?_
  refine W.widen (k := 0) (n := 0) (Nat.le_of_ble_eq_true rfl) (Nat.le_of_ble_eq_true rfl) ?_
  exact L7 ((4096 - 0) + 1) 0 0 v_V_size 12 f_V_sets (by omega) (by omega) (Nat.lt_succ_self _) _ _ _ hP hD hS hl
def qwX6_countShares (a_V : Nat) (v_V_size : Nat) (v_V_fewest : Int32) (v_V_any : Int32) (a_V_sets : Nat) (f_V_sets : Nat → Int32) (a_V_shares : Nat) (f_V_shares : Nat → Int32) : ((Nat → Int32)) → Prop := (fun (u : (Nat → Int32)) => True)
def vwX6_countShares (K : Nat → ClassId) (a_V : Nat) (v_V_size : Nat) (v_V_fewest : Int32) (v_V_any : Int32) (a_V_sets : Nat) (f_V_sets : Nat → Int32) (a_V_shares : Nat) (f_V_shares : Nat → Int32) : ((Nat → Int32)) → va_W := (fun (u : (Nat → Int32)) => [(a_V, .inr (6, [.ref a_V_sets, .ref a_V_shares, .int (nI v_V_size), .int v_V_fewest, .int v_V_any])), (a_V_sets, .inl (K 0, 252, .inl f_V_sets)), (a_V_shares, .inl (K 0, 12, .inl u))])
set_option maxHeartbeats 4000000 in
set_option maxRecDepth 100000 in
theorem wX6_countShares (l : Launch) (D : va_G) (K : Nat → ClassId) (sz : Nat) (a_V : Nat) (v_V_size : Nat) (v_V_fewest : Int32) (v_V_any : Int32) (a_V_sets : Nat) (f_V_sets : Nat → Int32) (a_V_shares : Nat) (f_V_shares : Nat → Int32) (hv_V_size : v_V_size ≤ 252) (hv_V_any : v_V_any = 0 ∨ v_V_any = 1) : uMv l yX6_countShares cX6_countShares 3 { frames := 1, cells := 0, slots := 0, locals := 23 } [.ref a_V] D K [(a_V, .inr (6, [.ref a_V_sets, .ref a_V_shares, .int (nI v_V_size), .int v_V_fewest, .int v_V_any])), (a_V_sets, .inl (K 0, 252, .inl f_V_sets)), (a_V_shares, .inl (K 0, 12, .inl f_V_shares))] sz (qwX6_countShares a_V v_V_size v_V_fewest v_V_any a_V_sets f_V_sets a_V_shares f_V_shares) (vwX6_countShares K a_V v_V_size v_V_fewest v_V_any a_V_sets f_V_sets a_V_shares f_V_shares) := by
  refine uMet (Qc := uQv D (qwX6_countShares a_V v_V_size v_V_fewest v_V_any a_V_sets f_V_sets a_V_shares f_V_shares) (vwX6_countShares K a_V v_V_size v_V_fewest v_V_any a_V_sets f_V_sets a_V_shares f_V_shares)) (ret := none) (by decide) (Nat.le_of_ble_eq_true rfl) ?_
  intro p e s m below meth c A ls hAe hsz B hP hD hS hl
  have hx := B.1
  have hb := B.2.1
  have hl : lv_has ls 3 [(0, .ref a_V)] := hl
  refine lv_aload_n hx hb dX6_countShares_0 rfl (lv_at hl 0 rfl) ?_
  refine uGet (ci := 6) (C := RX6) (T := TX6) (N := 5) (v := .ref a_V_shares) B inlX6 hP 0 rfl rfl 1 rfl mfl_X6_15 rfl rfl dX6_countShares_1 ?_
  refine lv_iconst (v := 0) hx hb dX6_countShares_4 (by decide) ?_
  refine uSv (As := [.ref a_V_shares, .int 0]) (rest := []) (wr := [(a_V, .inr (6, [.ref a_V_sets, .ref a_V_shares, .int (nI v_V_size), .int v_V_fewest, .int v_V_any])), (a_V_sets, .inl (K 0, 252, .inl f_V_sets))]) [(a_V_shares, .inl (K 0, 12, .inl f_V_shares))] B hl.1 hP hD hS [2] [0, 1] rfl rfl rfl (wJ7_fill_53178_vF12 l D K _ a_V_shares f_V_shares 0) wd_J7_fill_53178 mml_X6_58 rfl rfl ⟨Nat.le_of_ble_eq_true rfl, Nat.le_of_ble_eq_true rfl⟩ (Nat.le_of_ble_eq_true rfl) ⟨Nat.le_of_ble_eq_true rfl, Nat.le_of_ble_eq_true rfl⟩ dX6_countShares_5 (fun u H locs hw hP hD hS => ?_)
  obtain ⟨u2, e9⟩ : ∃ y, y = u := ⟨_, rfl⟩
  subst e9
  try dsimp only at hw
  have hP : va_P D vwCl [(a_V, .inr (6, [.ref a_V_sets, .ref a_V_shares, .int (nI v_V_size), .int v_V_fewest, .int v_V_any])), (a_V_sets, .inl (K 0, 252, .inl f_V_sets)), (a_V_shares, .inl (K 0, 12, .inl u2))] H := hP
  have hD := uDPJ hP hD
  refine lv_iconst (v := 0) hx hb dX6_countShares_8 (by decide) ?_
  refine lv_pc (q := 9) rfl ?_
  refine lv_istore_n (lv' := [(1, .int 0), (0, .ref a_V)]) hx hb dX6_countShares_9 rfl hl (by decide) rfl (fun ls hl => ?_)
  have L6 : ∀ (n9 : Nat) (j3 : Nat) (f4 : Nat → Int32), (j3 ≤ v_V_size) → v_V_size - j3 < n9 → ∀ (H : Heap) (locs : List Loc) (ls : Array Slot), va_P D vwCl [(a_V, .inr (6, [.ref a_V_sets, .ref a_V_shares, .int (nI v_V_size), .int v_V_fewest, .int v_V_any])), (a_V_sets, .inl (K 0, 252, .inl f_V_sets)), (a_V_shares, .inl (K 0, 12, .inl f4))] H → va_D A [(a_V, .inr (6, [.ref a_V_sets, .ref a_V_shares, .int (nI v_V_size), .int v_V_fewest, .int v_V_any])), (a_V_sets, .inl (K 0, 252, .inl f_V_sets)), (a_V_shares, .inl (K 0, 12, .inl f4))] → va_S A s.heap H locs → lv_has ls 3 [(1, .int (nI j3)), (0, .ref a_V)] → W p l e { frames := 1, cells := 0, slots := 0, locals := 23 } s m ([.ref a_V] : List Value).toArray below meth c H locs 0 0 (MQ below (uQv D (qwX6_countShares a_V v_V_size v_V_fewest v_V_any a_V_sets f_V_sets a_V_shares f_V_shares) (vwX6_countShares K a_V v_V_size v_V_fewest v_V_any a_V_sets f_V_sets a_V_shares f_V_shares) A) ([.ref a_V] : List Value).toArray s 0 0 A) (F0 m 10 ls []) := by
    intro n9
    induction n9 with
    | zero => intros; exact absurd ‹_ < 0› (Nat.not_lt_zero _)
    | succ n10_ ih10 =>
      intro j3 f4 hj3 hm10 H locs ls hP hD hS hl
      refine lv_iload_n hx hb dX6_countShares_10 rfl (lv_at hl 0 rfl) ?_
      refine lv_aload_n hx hb dX6_countShares_11 rfl (lv_at hl 1 rfl) ?_
      refine uGet (ci := 6) (C := RX6) (T := TX6) (N := 5) (v := .int (nI v_V_size)) B inlX6 hP 0 rfl rfl 2 rfl mfl_X6_18 rfl rfl dX6_countShares_12 ?_
      refine lv_icmp_ge (tgt := 57) hx hb dX6_countShares_15 (by decide) (fun c7 => ?_) (fun c7 => ?_)
      · have k_7 : v_V_size ≤ j3 := (nI_leI (a := v_V_size) (b := j3) (by omega) (by omega)).mp c7
        exact uRv f4 B trivial (uSub hP [0, 1, 2] rfl) (hD.sub [0, 1, 2] rfl rfl) hS dX6_countShares_57
      have k_7 : ¬ v_V_size ≤ j3 := fun h9 => c7 ((nI_leI (a := v_V_size) (b := j3) (by omega) (by omega)).mpr h9)
      refine lv_iconst (v := 0) hx hb dX6_countShares_18 (by decide) ?_
      refine lv_pc (q := 19) rfl ?_
      refine lv_istore_n (lv' := [(2, .int 0), (1, .int (nI j3)), (0, .ref a_V)]) hx hb dX6_countShares_19 rfl hl (by decide) rfl (fun ls hl => ?_)
      have L11 : ∀ (n9 : Nat) (j8 : Nat) (f9 : Nat → Int32), (j8 ≤ 12) → 12 - j8 < n9 → ∀ (H : Heap) (locs : List Loc) (ls : Array Slot), va_P D vwCl [(a_V, .inr (6, [.ref a_V_sets, .ref a_V_shares, .int (nI v_V_size), .int v_V_fewest, .int v_V_any])), (a_V_sets, .inl (K 0, 252, .inl f_V_sets)), (a_V_shares, .inl (K 0, 12, .inl f9))] H → va_D A [(a_V, .inr (6, [.ref a_V_sets, .ref a_V_shares, .int (nI v_V_size), .int v_V_fewest, .int v_V_any])), (a_V_sets, .inl (K 0, 252, .inl f_V_sets)), (a_V_shares, .inl (K 0, 12, .inl f9))] → va_S A s.heap H locs → lv_has ls 3 [(2, .int (nI j8)), (1, .int (nI j3)), (0, .ref a_V)] → W p l e { frames := 1, cells := 0, slots := 0, locals := 23 } s m ([.ref a_V] : List Value).toArray below meth c H locs 0 0 (MQ below (uQv D (qwX6_countShares a_V v_V_size v_V_fewest v_V_any a_V_sets f_V_sets a_V_shares f_V_shares) (vwX6_countShares K a_V v_V_size v_V_fewest v_V_any a_V_sets f_V_sets a_V_shares f_V_shares) A) ([.ref a_V] : List Value).toArray s 0 0 A) (F0 m 20 ls []) := by
        intro n9
        induction n9 with
        | zero => intros; exact absurd ‹_ < 0› (Nat.not_lt_zero _)
        | succ n20_ ih20 =>
          intro j8 f9 hj8 hm20 H locs ls hP hD hS hl
          refine lv_iload_n hx hb dX6_countShares_20 rfl (lv_at hl 0 rfl) ?_
          refine lv_bipush (v := 12) hx hb dX6_countShares_21 (by decide) ?_
          refine lv_icmp_ge (tgt := 51) hx hb dX6_countShares_23 (by decide) (fun c12 => ?_) (fun c12 => ?_)
          · have k_12 : 12 ≤ j8 := (nI_leI (a := 12) (b := j8) (by omega) (by omega)).mp c12
            refine lv_iinc (v := nI (j3 + 1)) (lv' := [(1, .int (nI (j3 + 1))), (2, .int (nI j8)), (0, .ref a_V)]) hx hb dX6_countShares_51 hl (k := 1) rfl (nI_1 _) (by decide) rfl (fun ls hl => ?_)
            refine lv_goto (tgt := 10) hx hb dX6_countShares_54 (by decide) ?_
            refine lv_pc (q := 10) rfl ?_
            refine W.widen (k := 0) (n := 0) (Nat.le_of_ble_eq_true rfl) (Nat.le_of_ble_eq_true rfl) ?_
            exact ih10 (j3 + 1) f9 (by omega) (by omega) _ _ _ (uSub hP [0, 1, 2] rfl) (hD.sub [0, 1, 2] rfl rfl) hS (lv_sub hl [0, 2] rfl)
          have k_12 : ¬ 12 ≤ j8 := fun h9 => c12 ((nI_leI (a := 12) (b := j8) (by omega) (by omega)).mpr h9)
          refine lv_aload_n hx hb dX6_countShares_26 rfl (lv_at hl 2 rfl) ?_
          refine uGet (ci := 6) (C := RX6) (T := TX6) (N := 5) (v := .ref a_V_shares) B inlX6 hP 0 rfl rfl 1 rfl mfl_X6_15 rfl rfl dX6_countShares_27 ?_
          refine lv_pc (q := 30) rfl ?_
          refine lv_iload_n hx hb dX6_countShares_30 rfl (lv_at hl 0 rfl) ?_
          refine lv_dup2_11 hx hb dX6_countShares_31 rfl rfl ?_
          refine uIald (i := (nI j8)) (j := j8) B hP 2 rfl (nI_in (by omega) (by omega)) (nI_clamp (by omega)) dX6_countShares_32 ?_
          refine lv_aload_n hx hb dX6_countShares_33 rfl (lv_at hl 2 rfl) ?_
          refine uGet (ci := 6) (C := RX6) (T := TX6) (N := 5) (v := .ref a_V_sets) B inlX6 hP 0 rfl rfl 0 rfl mfl_X6_11 rfl rfl dX6_countShares_34 ?_
          refine lv_iload_n hx hb dX6_countShares_37 rfl (lv_at hl 1 rfl) ?_
          refine lv_pc (q := 38) rfl ?_
          refine uIald (i := (nI j3)) (j := j3) B hP 1 rfl (nI_in (by omega) (by omega)) (nI_clamp (by omega)) dX6_countShares_38 ?_
          refine lv_iload_n hx hb dX6_countShares_39 rfl (lv_at hl 0 rfl) ?_
          refine lv_ishr hx hb dX6_countShares_40 ?_
          refine lv_iconst (v := 1) hx hb dX6_countShares_41 (by decide) ?_
          refine lv_iand hx hb dX6_countShares_42 ?_
          refine lv_iadd hx hb dX6_countShares_43 ?_
          refine lv_pc (q := 44) rfl ?_
          refine lv_topi (fun y13 ey13 => ?_)
          clear ey13
          refine uIast (i := (nI j8)) (j := j8) (ws' := [(a_V, .inr (6, [.ref a_V_sets, .ref a_V_shares, .int (nI v_V_size), .int v_V_fewest, .int v_V_any])), (a_V_sets, .inl (K 0, 252, .inl f_V_sets)), (a_V_shares, .inl (K 0, 12, .inl (upd f9 j8 y13)))]) B hP hD hS 2 rfl (nI_in (by omega) (by omega)) (nI_clamp (by omega)) rfl dX6_countShares_44 (fun H locs hP hD hS => ?_)
          refine lv_iinc (v := nI (j8 + 1)) (lv' := [(2, .int (nI (j8 + 1))), (1, .int (nI j3)), (0, .ref a_V)]) hx hb dX6_countShares_45 hl (k := 0) rfl (nI_1 _) (by decide) rfl (fun ls hl => ?_)
          refine lv_goto (tgt := 20) hx hb dX6_countShares_48 (by decide) ?_
          refine lv_pc (q := 20) rfl ?_
          refine W.widen (k := 0) (n := 0) (Nat.le_of_ble_eq_true rfl) (Nat.le_of_ble_eq_true rfl) ?_
          exact ih20 (j8 + 1) (upd f9 j8 y13) (by omega) (by omega) _ _ _ (uSub hP [0, 1, 2] rfl) (hD.sub [0, 1, 2] rfl rfl) hS (lv_sub hl [0, 1, 2] rfl)
      refine lv_pc (q := 20) rfl ?_
      refine W.widen (k := 0) (n := 0) (Nat.le_of_ble_eq_true rfl) (Nat.le_of_ble_eq_true rfl) ?_
      exact L11 ((12 - 0) + 1) 0 f4 (by omega) (Nat.lt_succ_self _) _ _ _ hP hD hS hl
  refine lv_pc (q := 10) rfl ?_
  refine W.widen (k := 0) (n := 0) (Nat.le_of_ble_eq_true rfl) (Nat.le_of_ble_eq_true rfl) ?_
  exact L6 ((v_V_size - 0) + 1) 0 u2 (by omega) (Nat.lt_succ_self _) _ _ _ hP hD hS hl
def qwX6_find (a_V : Nat) (v_V_size : Nat) (v_V_fewest : Int32) (v_V_any : Int32) (a_L : Nat) (v_L_found : Int32) (v_L_supposed : Int32) (a_L_near : Nat) (f_L_near : Nat → Int32) (a_V_sets : Nat) (f_V_sets : Nat → Int32) (a_V_shares : Nat) (f_V_shares : Nat → Int32) (a_P : Nat) (a_N : Nat) (a_S : Nat) (a_L_clear : Nat) : Int32 → (Nat × Int32 × Int32 × (Nat → Int32) × (Nat → Int32)) → Prop := (fun (r : Int32) (u : Nat × Int32 × Int32 × (Nat → Int32) × (Nat → Int32)) => (u.1 ≤ 252) ∧ (u.2.2.1 = 0 ∨ u.2.2.1 = 1))
def vwX6_find (K : Nat → ClassId) (a_V : Nat) (v_V_size : Nat) (v_V_fewest : Int32) (v_V_any : Int32) (a_L : Nat) (v_L_found : Int32) (v_L_supposed : Int32) (a_L_near : Nat) (f_L_near : Nat → Int32) (a_V_sets : Nat) (f_V_sets : Nat → Int32) (a_V_shares : Nat) (f_V_shares : Nat → Int32) (a_P : Nat) (a_N : Nat) (a_S : Nat) (a_L_clear : Nat) : (Nat × Int32 × Int32 × (Nat → Int32) × (Nat → Int32)) → va_W := (fun (u : Nat × Int32 × Int32 × (Nat → Int32) × (Nat → Int32)) => [(a_V, .inr (6, [.ref a_V_sets, .ref a_V_shares, .int (nI ((u.1))), .int u.2.1, .int u.2.2.1])), (a_L, .inr (1, [.ref a_P, .ref a_N, .ref a_S, .ref a_L_near, .ref a_L_clear, .int v_L_found, .int v_L_supposed])), (a_L_near, .inl (K 0, 12, .inl f_L_near)), (a_V_sets, .inl (K 0, 252, .inl (u.2.2.2.1))), (a_V_shares, .inl (K 0, 12, .inl (u.2.2.2.2)))])
set_option maxHeartbeats 4000000 in
set_option maxRecDepth 100000 in
theorem wX6_find (l : Launch) (D : va_G) (K : Nat → ClassId) (sz : Nat) (a_V : Nat) (v_V_size : Nat) (v_V_fewest : Int32) (v_V_any : Int32) (a_L : Nat) (v_L_found : Int32) (v_L_supposed : Int32) (a_L_near : Nat) (f_L_near : Nat → Int32) (a_V_sets : Nat) (f_V_sets : Nat → Int32) (a_V_shares : Nat) (f_V_shares : Nat → Int32) (a_P : Nat) (a_N : Nat) (a_S : Nat) (a_L_clear : Nat) (hv_V_size : v_V_size ≤ 252) (hv_V_any : v_V_any = 0 ∨ v_V_any = 1) : uMi l yX6_find cX6_find 2 (some .int) { frames := 4, cells := 0, slots := 0, locals := 95 } [.ref a_V, .ref a_L] D K [(a_V, .inr (6, [.ref a_V_sets, .ref a_V_shares, .int (nI v_V_size), .int v_V_fewest, .int v_V_any])), (a_L, .inr (1, [.ref a_P, .ref a_N, .ref a_S, .ref a_L_near, .ref a_L_clear, .int v_L_found, .int v_L_supposed])), (a_L_near, .inl (K 0, 12, .inl f_L_near)), (a_V_sets, .inl (K 0, 252, .inl f_V_sets)), (a_V_shares, .inl (K 0, 12, .inl f_V_shares))] sz (qwX6_find a_V v_V_size v_V_fewest v_V_any a_L v_L_found v_L_supposed a_L_near f_L_near a_V_sets f_V_sets a_V_shares f_V_shares a_P a_N a_S a_L_clear) (vwX6_find K a_V v_V_size v_V_fewest v_V_any a_L v_L_found v_L_supposed a_L_near f_L_near a_V_sets f_V_sets a_V_shares f_V_shares a_P a_N a_S a_L_clear) := by
  refine uMet (Qc := uQi D (qwX6_find a_V v_V_size v_V_fewest v_V_any a_L v_L_found v_L_supposed a_L_near f_L_near a_V_sets f_V_sets a_V_shares f_V_shares a_P a_N a_S a_L_clear) (vwX6_find K a_V v_V_size v_V_fewest v_V_any a_L v_L_found v_L_supposed a_L_near f_L_near a_V_sets f_V_sets a_V_shares f_V_shares a_P a_N a_S a_L_clear)) (ret := (some .int)) (by decide) (Nat.le_of_ble_eq_true rfl) ?_
  intro p e s m below meth c A ls hAe hsz B hP hD hS hl
  have hx := B.1
  have hb := B.2.1
  have hl : lv_has ls 2 [(0, .ref a_V), (1, .ref a_L)] := hl
  refine lv_aload_n hx hb dX6_find_0 rfl (lv_at hl 0 rfl) ?_
  refine uVv (As := []) (rest := []) (wr := [(a_L, .inr (1, [.ref a_P, .ref a_N, .ref a_S, .ref a_L_near, .ref a_L_clear, .int v_L_found, .int v_L_supposed])), (a_L_near, .inl (K 0, 12, .inl f_L_near)), (a_V_sets, .inl (K 0, 252, .inl f_V_sets)), (a_V_shares, .inl (K 0, 12, .inl f_V_shares))]) [(a_V, .inr (6, [.ref a_V_sets, .ref a_V_shares, .int (nI v_V_size), .int v_V_fewest, .int v_V_any]))] B hl.1 hP hD hS [0] [1, 2, 3, 4] rfl rfl rfl (wX6_clear l D K _ a_V v_V_size v_V_fewest v_V_any a_V_sets a_V_shares (by omega) hv_V_any) wd_X6_clear mml_X6_29 rfl rfl rfl rfl ⟨Nat.le_of_ble_eq_true rfl, Nat.le_of_ble_eq_true rfl⟩ (Nat.le_of_ble_eq_true rfl) ⟨Nat.le_of_ble_eq_true rfl, Nat.le_of_ble_eq_true rfl⟩ dX6_find_1 (fun u H locs hw hP hD hS => ?_)
  obtain ⟨u2, u3⟩ := u
  try dsimp only at hw
  obtain ⟨w4, w5⟩ := hw
  have hP : va_P D vwCl [(a_L, .inr (1, [.ref a_P, .ref a_N, .ref a_S, .ref a_L_near, .ref a_L_clear, .int v_L_found, .int v_L_supposed])), (a_L_near, .inl (K 0, 12, .inl f_L_near)), (a_V_sets, .inl (K 0, 252, .inl f_V_sets)), (a_V_shares, .inl (K 0, 12, .inl f_V_shares)), (a_V, .inr (6, [.ref a_V_sets, .ref a_V_shares, .int (nI u2), .int v_V_fewest, .int u3]))] H := hP
  have hD := uDPJ hP hD
  refine lv_aload_n hx hb dX6_find_4 rfl (lv_at hl 1 rfl) ?_
  refine lv_aload_n hx hb dX6_find_5 rfl (lv_at hl 1 rfl) ?_
  refine uGet (ci := 1) (C := RX1) (T := TX1) (N := 7) (v := .int v_L_supposed) B inlX1 hP 0 rfl rfl 6 rfl mfl_X6_32 rfl rfl dX6_find_6 ?_
  refine lv_pc (q := 9) rfl ?_
  refine uVi (As := [.int v_L_supposed]) (rest := []) (wr := [(a_V_sets, .inl (K 0, 252, .inl f_V_sets)), (a_V_shares, .inl (K 0, 12, .inl f_V_shares)), (a_V, .inr (6, [.ref a_V_sets, .ref a_V_shares, .int (nI u2), .int v_V_fewest, .int u3]))]) [(a_L, .inr (1, [.ref a_P, .ref a_N, .ref a_S, .ref a_L_near, .ref a_L_clear, .int v_L_found, .int v_L_supposed])), (a_L_near, .inl (K 0, 12, .inl f_L_near))] B hl.1 hP hD hS [0, 1] [2, 3, 4] rfl rfl rfl (wX1_isOneWith l D K _ a_L v_L_found v_L_supposed a_L_near f_L_near a_P a_N a_S a_L_clear v_L_supposed) wd_X1_isOneWith mml_X6_37 rfl rfl rfl rfl ⟨Nat.le_of_ble_eq_true rfl, Nat.le_of_ble_eq_true rfl⟩ (Nat.le_of_ble_eq_true rfl) ⟨Nat.le_of_ble_eq_true rfl, Nat.le_of_ble_eq_true rfl⟩ dX6_find_9 (fun r6 u H locs hw hP hD hS => ?_)
  try dsimp only at hw
  have w7 := hw
  have hP : va_P D vwCl [(a_V_sets, .inl (K 0, 252, .inl f_V_sets)), (a_V_shares, .inl (K 0, 12, .inl f_V_shares)), (a_V, .inr (6, [.ref a_V_sets, .ref a_V_shares, .int (nI u2), .int v_V_fewest, .int u3])), (a_L, .inr (1, [.ref a_P, .ref a_N, .ref a_S, .ref a_L_near, .ref a_L_clear, .int v_L_found, .int v_L_supposed])), (a_L_near, .inl (K 0, 12, .inl f_L_near))] H := hP
  have hD := uDPJ hP hD
  rcases w7 with rfl | rfl
  · refine lv_if_ne (tgt := 17) hx hb dX6_find_12 (by decide) (fun h9 => absurd (by decide) h9) (fun _ => ?_)
    refine lv_iconst (v := (-1)) hx hb dX6_find_15 (by decide) ?_
    exact uRi (u2, v_V_fewest, u3, f_V_sets, f_V_shares) B ⟨(by (try dsimp only); omega), w5⟩ (uSub hP [2, 3, 4, 0, 1] rfl) (hD.sub [2, 3, 4, 0, 1] rfl rfl) hS dX6_find_16
  refine lv_if_ne (tgt := 17) hx hb dX6_find_12 (by decide) (fun _ => ?_) (fun h9 => absurd h9 (by decide))
  refine lv_aload_n hx hb dX6_find_17 rfl (lv_at hl 0 rfl) ?_
  refine lv_iconst (v := 1) hx hb dX6_find_18 (by decide) ?_
  refine uPut (ci := 6) (C := RX6) (T := TX6) (N := 5) (ws' := [(a_V_sets, .inl (K 0, 252, .inl f_V_sets)), (a_V_shares, .inl (K 0, 12, .inl f_V_shares)), (a_V, .inr (6, [.ref a_V_sets, .ref a_V_shares, .int (nI u2), .int v_V_fewest, .int 1])), (a_L, .inr (1, [.ref a_P, .ref a_N, .ref a_S, .ref a_L_near, .ref a_L_clear, .int v_L_found, .int v_L_supposed])), (a_L_near, .inl (K 0, 12, .inl f_L_near))]) B inlX6 tyX6_ok nmX6 hP hD hS 2 rfl rfl 4 rfl mfl_X6_25 rfl rfl rfl rfl rfl rfl dX6_find_19 (fun H locs hP hD hS => ?_)
  refine lv_aload_n hx hb dX6_find_22 rfl (lv_at hl 0 rfl) ?_
  refine lv_pc (q := 23) rfl ?_
  refine lv_aload_n hx hb dX6_find_23 rfl (lv_at hl 1 rfl) ?_
  refine uVvJ (As := [.ref a_L]) (rest := []) (wr := [(a_V_shares, .inl (K 0, 12, .inl f_V_shares))]) (wX6_gather l D K _ a_V u2 v_V_fewest 1 a_L v_L_found v_L_supposed a_L_near f_L_near a_V_sets f_V_sets a_V_shares a_P a_N a_S a_L_clear (by omega) (Or.inr rfl)) B hl.1 hP hD hS [2, 3, 4, 0] [1] rfl rfl rfl wd_X6_gather mml_X6_41 rfl rfl rfl rfl ⟨Nat.le_of_ble_eq_true rfl, Nat.le_of_ble_eq_true rfl⟩ (Nat.le_of_ble_eq_true rfl) ⟨Nat.le_of_ble_eq_true rfl, Nat.le_of_ble_eq_true rfl⟩ dX6_find_24 (fun u H locs hw hP hD hS => ?_)
  obtain ⟨u9, u10, u11⟩ := u
  try dsimp only at hw
  have w12 : u9 ≤ 252 := hw
  have hP : va_P D vwCl [(a_V_shares, .inl (K 0, 12, .inl f_V_shares)), (a_V, .inr (6, [.ref a_V_sets, .ref a_V_shares, .int (nI u9), .int u10, .int 1])), (a_L, .inr (1, [.ref a_P, .ref a_N, .ref a_S, .ref a_L_near, .ref a_L_clear, .int v_L_found, .int v_L_supposed])), (a_L_near, .inl (K 0, 12, .inl f_L_near)), (a_V_sets, .inl (K 0, 252, .inl u11))] H := hP
  have hD := uDPJ hP hD
  refine lv_aload_n hx hb dX6_find_27 rfl (lv_at hl 0 rfl) ?_
  refine uVv (As := []) (rest := []) (wr := [(a_L, .inr (1, [.ref a_P, .ref a_N, .ref a_S, .ref a_L_near, .ref a_L_clear, .int v_L_found, .int v_L_supposed])), (a_L_near, .inl (K 0, 12, .inl f_L_near))]) [(a_V, .inr (6, [.ref a_V_sets, .ref a_V_shares, .int (nI u9), .int u10, .int 1])), (a_V_sets, .inl (K 0, 252, .inl u11)), (a_V_shares, .inl (K 0, 12, .inl f_V_shares))] B hl.1 hP hD hS [1, 4, 0] [2, 3] rfl rfl rfl (wX6_countShares l D K _ a_V u9 u10 1 a_V_sets u11 a_V_shares f_V_shares (by omega) (Or.inr rfl)) wd_X6_countShares mml_X6_45 rfl rfl rfl rfl ⟨Nat.le_of_ble_eq_true rfl, Nat.le_of_ble_eq_true rfl⟩ (Nat.le_of_ble_eq_true rfl) ⟨Nat.le_of_ble_eq_true rfl, Nat.le_of_ble_eq_true rfl⟩ dX6_find_28 (fun u H locs hw hP hD hS => ?_)
  obtain ⟨u14, e9⟩ : ∃ y, y = u := ⟨_, rfl⟩
  subst e9
  try dsimp only at hw
  have hP : va_P D vwCl [(a_L, .inr (1, [.ref a_P, .ref a_N, .ref a_S, .ref a_L_near, .ref a_L_clear, .int v_L_found, .int v_L_supposed])), (a_L_near, .inl (K 0, 12, .inl f_L_near)), (a_V, .inr (6, [.ref a_V_sets, .ref a_V_shares, .int (nI u9), .int u10, .int 1])), (a_V_sets, .inl (K 0, 252, .inl u11)), (a_V_shares, .inl (K 0, 12, .inl u14))] H := hP
  have hD := uDPJ hP hD
  refine lv_aload_n hx hb dX6_find_31 rfl (lv_at hl 0 rfl) ?_
  refine uGet (ci := 6) (C := RX6) (T := TX6) (N := 5) (v := .int u10) B inlX6 hP 2 rfl rfl 3 rfl mfl_X6_22 rfl rfl dX6_find_32 ?_
  refine lv_pc (q := 35) rfl ?_
  exact uRi (u9, u10, 1, u11, u14) B ⟨(by (try dsimp only); omega), (Or.inr rfl)⟩ (uSub hP [2, 0, 1, 3, 4] rfl) (hD.sub [2, 0, 1, 3, 4] rfl rfl) hS dX6_find_35
def qwX6_nextToDig (a_V : Nat) (v_V_size : Nat) (v_V_fewest : Int32) (v_V_any : Int32) (a_V_shares : Nat) (f_V_shares : Nat → Int32) (a_V_sets : Nat) : Int32 → (Unit) → Prop := (fun (r : Int32) (u : Unit) => True)
def vwX6_nextToDig (K : Nat → ClassId) (a_V : Nat) (v_V_size : Nat) (v_V_fewest : Int32) (v_V_any : Int32) (a_V_shares : Nat) (f_V_shares : Nat → Int32) (a_V_sets : Nat) : (Unit) → va_W := (fun (u : Unit) => [(a_V, .inr (6, [.ref a_V_sets, .ref a_V_shares, .int (nI v_V_size), .int v_V_fewest, .int v_V_any])), (a_V_shares, .inl (K 0, 12, .inl f_V_shares))])
set_option maxHeartbeats 4000000 in
set_option maxRecDepth 100000 in
theorem wX6_nextToDig (l : Launch) (D : va_G) (K : Nat → ClassId) (sz : Nat) (a_V : Nat) (v_V_size : Nat) (v_V_fewest : Int32) (v_V_any : Int32) (a_V_shares : Nat) (f_V_shares : Nat → Int32) (a_V_sets : Nat) (hv_V_size : v_V_size ≤ 252) (hv_V_any : v_V_any = 0 ∨ v_V_any = 1) : uMi l yX6_nextToDig cX6_nextToDig 5 (some .int) { frames := 1, cells := 0, slots := 0, locals := 13 } [.ref a_V] D K [(a_V, .inr (6, [.ref a_V_sets, .ref a_V_shares, .int (nI v_V_size), .int v_V_fewest, .int v_V_any])), (a_V_shares, .inl (K 0, 12, .inl f_V_shares))] sz (qwX6_nextToDig a_V v_V_size v_V_fewest v_V_any a_V_shares f_V_shares a_V_sets) (vwX6_nextToDig K a_V v_V_size v_V_fewest v_V_any a_V_shares f_V_shares a_V_sets) := by
  refine uMet (Qc := uQi D (qwX6_nextToDig a_V v_V_size v_V_fewest v_V_any a_V_shares f_V_shares a_V_sets) (vwX6_nextToDig K a_V v_V_size v_V_fewest v_V_any a_V_shares f_V_shares a_V_sets)) (ret := (some .int)) (by decide) (Nat.le_of_ble_eq_true rfl) ?_
  intro p e s m below meth c A ls hAe hsz B hP hD hS hl
  have hx := B.1
  have hb := B.2.1
  have hl : lv_has ls 5 [(0, .ref a_V)] := hl
  refine lv_iconst (v := (-1)) hx hb dX6_nextToDig_0 (by decide) ?_
  refine lv_istore_n (lv' := [(1, .int (-1)), (0, .ref a_V)]) hx hb dX6_nextToDig_1 rfl hl (by decide) rfl (fun ls hl => ?_)
  refine lv_aload_n hx hb dX6_nextToDig_2 rfl (lv_at hl 1 rfl) ?_
  refine uGet (ci := 6) (C := RX6) (T := TX6) (N := 5) (v := .int (nI v_V_size)) B inlX6 hP 0 rfl rfl 2 rfl mfl_X6_18 rfl rfl dX6_nextToDig_3 ?_
  refine lv_istore_n (lv' := [(2, .int (nI v_V_size)), (1, .int (-1)), (0, .ref a_V)]) hx hb dX6_nextToDig_6 rfl hl (by decide) rfl (fun ls hl => ?_)
  refine lv_pc (q := 7) rfl ?_
  refine lv_iconst (v := 0) hx hb dX6_nextToDig_7 (by decide) ?_
  refine lv_istore_n (lv' := [(3, .int 0), (2, .int (nI v_V_size)), (1, .int (-1)), (0, .ref a_V)]) hx hb dX6_nextToDig_8 rfl hl (by decide) rfl (fun ls hl => ?_)
  have L5 : ∀ (n9 : Nat) (j1 : Nat) (y2 : Int32) (y3 : Int32), (j1 ≤ 12) → 12 - j1 < n9 → ∀ (H : Heap) (locs : List Loc) (ls : Array Slot), va_P D vwCl [(a_V, .inr (6, [.ref a_V_sets, .ref a_V_shares, .int (nI v_V_size), .int v_V_fewest, .int v_V_any])), (a_V_shares, .inl (K 0, 12, .inl f_V_shares))] H → va_D A [(a_V, .inr (6, [.ref a_V_sets, .ref a_V_shares, .int (nI v_V_size), .int v_V_fewest, .int v_V_any])), (a_V_shares, .inl (K 0, 12, .inl f_V_shares))] → va_S A s.heap H locs → lv_has ls 5 [(3, .int (nI j1)), (2, .int y3), (1, .int y2), (0, .ref a_V)] → W p l e { frames := 1, cells := 0, slots := 0, locals := 13 } s m ([.ref a_V] : List Value).toArray below meth c H locs 0 0 (MQ below (uQi D (qwX6_nextToDig a_V v_V_size v_V_fewest v_V_any a_V_shares f_V_shares a_V_sets) (vwX6_nextToDig K a_V v_V_size v_V_fewest v_V_any a_V_shares f_V_shares a_V_sets) A) ([.ref a_V] : List Value).toArray s 0 0 A) (F0 m 9 ls []) := by
    intro n9
    induction n9 with
    | zero => intros; exact absurd ‹_ < 0› (Nat.not_lt_zero _)
    | succ n9_ ih9 =>
      intro j1 y2 y3 hj1 hm9 H locs ls hP hD hS hl
      refine lv_iload_n hx hb dX6_nextToDig_9 rfl (lv_at hl 0 rfl) ?_
      refine lv_bipush (v := 12) hx hb dX6_nextToDig_10 (by decide) ?_
      refine lv_icmp_ge (tgt := 54) hx hb dX6_nextToDig_12 (by decide) (fun c6 => ?_) (fun c6 => ?_)
      · have k_6 : 12 ≤ j1 := (nI_leI (a := 12) (b := j1) (by omega) (by omega)).mp c6
        refine lv_iload_n hx hb dX6_nextToDig_54 rfl (lv_at hl 2 rfl) ?_
        refine lv_pc (q := 55) rfl ?_
        exact uRi () B trivial (uSub hP [0, 1] rfl) (hD.sub [0, 1] rfl rfl) hS dX6_nextToDig_55
      have k_6 : ¬ 12 ≤ j1 := fun h9 => c6 ((nI_leI (a := 12) (b := j1) (by omega) (by omega)).mpr h9)
      refine lv_aload_n hx hb dX6_nextToDig_15 rfl (lv_at hl 3 rfl) ?_
      refine lv_pc (q := 16) rfl ?_
      refine uGet (ci := 6) (C := RX6) (T := TX6) (N := 5) (v := .ref a_V_shares) B inlX6 hP 0 rfl rfl 1 rfl mfl_X6_15 rfl rfl dX6_nextToDig_16 ?_
      refine lv_iload_n hx hb dX6_nextToDig_19 rfl (lv_at hl 0 rfl) ?_
      refine uIald (i := (nI j1)) (j := j1) B hP 1 rfl (nI_in (by omega) (by omega)) (nI_clamp (by omega)) dX6_nextToDig_20 ?_
      refine lv_aload_n hx hb dX6_nextToDig_21 rfl (lv_at hl 3 rfl) ?_
      refine uGet (ci := 6) (C := RX6) (T := TX6) (N := 5) (v := .int (nI v_V_size)) B inlX6 hP 0 rfl rfl 2 rfl mfl_X6_18 rfl rfl dX6_nextToDig_22 ?_
      refine lv_aload_n hx hb dX6_nextToDig_25 rfl (lv_at hl 3 rfl) ?_
      refine lv_pc (q := 26) rfl ?_
      refine uGet (ci := 6) (C := RX6) (T := TX6) (N := 5) (v := .ref a_V_shares) B inlX6 hP 0 rfl rfl 1 rfl mfl_X6_15 rfl rfl dX6_nextToDig_26 ?_
      refine lv_iload_n hx hb dX6_nextToDig_29 rfl (lv_at hl 0 rfl) ?_
      refine uIald (i := (nI j1)) (j := j1) B hP 1 rfl (nI_in (by omega) (by omega)) (nI_clamp (by omega)) dX6_nextToDig_30 ?_
      refine lv_isub hx hb dX6_nextToDig_31 ?_
      refine uMax B hl.1 mml_X6_64 (Nat.le_of_ble_eq_true rfl) (Nat.le_of_ble_eq_true rfl) (Nat.le_of_ble_eq_true rfl) (Nat.le_of_ble_eq_true rfl) dX6_nextToDig_32 ?_
      refine lv_topi (fun y7 ey7 => ?_)
      clear ey7
      refine lv_istore (lv' := [(4, .int y7), (3, .int (nI j1)), (2, .int y3), (1, .int y2), (0, .ref a_V)]) hx hb dX6_nextToDig_35 hl (by decide) rfl (fun ls hl => ?_)
      refine lv_pc (q := 37) rfl ?_
      refine lv_iload hx hb dX6_nextToDig_37 (lv_at hl 0 rfl) ?_
      refine lv_iload_n hx hb dX6_nextToDig_39 rfl (lv_at hl 2 rfl) ?_
      refine lv_icmp_ge (tgt := 48) hx hb dX6_nextToDig_40 (by decide) (fun c8 => ?_) (fun c8 => ?_)
      · refine lv_iinc (v := nI (j1 + 1)) (lv' := [(3, .int (nI (j1 + 1))), (4, .int y7), (2, .int y3), (1, .int y2), (0, .ref a_V)]) hx hb dX6_nextToDig_48 hl (k := 1) rfl (nI_1 _) (by decide) rfl (fun ls hl => ?_)
        refine lv_goto (tgt := 9) hx hb dX6_nextToDig_51 (by decide) ?_
        refine lv_pc (q := 9) rfl ?_
        refine W.widen (k := 0) (n := 0) (Nat.le_of_ble_eq_true rfl) (Nat.le_of_ble_eq_true rfl) ?_
        exact ih9 (j1 + 1) y2 y3 (by omega) (by omega) _ _ _ (uSub hP [0, 1] rfl) (hD.sub [0, 1] rfl rfl) hS (lv_sub hl [0, 2, 3, 4] rfl)
      refine lv_iload_n hx hb dX6_nextToDig_43 rfl (lv_at hl 1 rfl) ?_
      refine lv_istore_n (lv' := [(1, .int (nI j1)), (4, .int y7), (3, .int (nI j1)), (2, .int y3), (0, .ref a_V)]) hx hb dX6_nextToDig_44 rfl hl (by decide) rfl (fun ls hl => ?_)
      refine lv_iload hx hb dX6_nextToDig_45 (lv_at hl 1 rfl) ?_
      refine lv_pc (q := 47) rfl ?_
      refine lv_istore_n (lv' := [(2, .int y7), (1, .int (nI j1)), (4, .int y7), (3, .int (nI j1)), (0, .ref a_V)]) hx hb dX6_nextToDig_47 rfl hl (by decide) rfl (fun ls hl => ?_)
      refine lv_iinc (v := nI (j1 + 1)) (lv' := [(3, .int (nI (j1 + 1))), (2, .int y7), (1, .int (nI j1)), (4, .int y7), (0, .ref a_V)]) hx hb dX6_nextToDig_48 hl (k := 3) rfl (nI_1 _) (by decide) rfl (fun ls hl => ?_)
      refine lv_goto (tgt := 9) hx hb dX6_nextToDig_51 (by decide) ?_
      refine lv_pc (q := 9) rfl ?_
      refine W.widen (k := 0) (n := 0) (Nat.le_of_ble_eq_true rfl) (Nat.le_of_ble_eq_true rfl) ?_
      exact ih9 (j1 + 1) (nI j1) y7 (by omega) (by omega) _ _ _ (uSub hP [0, 1] rfl) (hD.sub [0, 1] rfl rfl) hS (lv_sub hl [0, 1, 2, 4] rfl)
  refine lv_pc (q := 9) rfl ?_
  refine W.widen (k := 0) (n := 0) (Nat.le_of_ble_eq_true rfl) (Nat.le_of_ble_eq_true rfl) ?_
  exact L5 ((12 - 0) + 1) 0 (-1) (nI v_V_size) (by omega) (Nat.lt_succ_self _) _ _ _ hP hD hS hl

theorem urAdE {t : Nat → Int32} {n p nx kd nu : Nat} {nm : Int64} {ky : Int32} {y : Nat} (i : urTk t n p nx kd nu nm ky) (h : y = urTo (urBl t) n nx) : y = urAd t n p := by
  rw [h, i.1]; rfl
def qkJ0_coder_7d493_5025  : Int32 → (Unit) → Prop := (fun (r : Int32) (u : Unit) => r = 0)
def vkJ0_coder_7d493_5025 (K : Nat → ClassId)  : (Unit) → va_W := (fun (u : Unit) => [])
set_option maxRecDepth 100000 in
theorem kJ0_coder_7d493_5025 (l : Launch) (D : va_G) (K : Nat → ClassId) (sz : Nat)  : uMi l yJ0_coder_7d493 cJ0_coder_7d493 1 (some .byte) { frames := 0, cells := 0, slots := 0, locals := 0 } [.ref (K 10)] D K [] sz (qkJ0_coder_7d493_5025 ) (vkJ0_coder_7d493_5025 K ) := by
  refine uMet (Qc := uQi D (qkJ0_coder_7d493_5025 ) (vkJ0_coder_7d493_5025 K )) (ret := (some .byte)) (by decide) (Nat.le_of_ble_eq_true rfl) ?_
  intro p e s m below meth c A ls hAe hsz B hP hD hS hl
  have hx := B.1
  have hb := B.2.1
  have hl : lv_has ls 1 [(0, .ref (K 10))] := hl
  refine uScom B hS mfl_J0_38 dJ0_coder_7d493_0 ?_
  refine lv_if_eq (tgt := 13) hx hb dJ0_coder_7d493_3 (by decide) (fun h9 => absurd h9 (by decide)) (fun _ => ?_)
  refine lv_aload_n hx hb dJ0_coder_7d493_6 rfl (lv_at hl 0 rfl) ?_
  refine uScod B hS mfl_J0_15 dJ0_coder_7d493_7 ?_
  refine lv_goto (tgt := 14) hx hb dJ0_coder_7d493_10 (by decide) ?_
  refine lv_pc (q := 14) rfl ?_
  exact uRz () B rfl rfl (uSub hP [] rfl) (hD.sub [] rfl rfl) hS dJ0_coder_7d493_14
def qkJ0_length_8abf5_5026  : Int32 → (Unit) → Prop := (fun (r : Int32) (u : Unit) => r = 65)
def vkJ0_length_8abf5_5026 (K : Nat → ClassId)  : (Unit) → va_W := (fun (u : Unit) => [])
set_option maxRecDepth 100000 in
theorem kJ0_length_8abf5_5026 (l : Launch) (D : va_G) (K : Nat → ClassId) (sz : Nat)  : uMi l yJ0_length_8abf5 cJ0_length_8abf5 1 (some .int) { frames := 1, cells := 0, slots := 0, locals := 20 } [.ref (K 10)] D K [] sz (qkJ0_length_8abf5_5026 ) (vkJ0_length_8abf5_5026 K ) := by
  refine uMet (Qc := uQi D (qkJ0_length_8abf5_5026 ) (vkJ0_length_8abf5_5026 K )) (ret := (some .int)) (by decide) (Nat.le_of_ble_eq_true rfl) ?_
  intro p e s m below meth c A ls hAe hsz B hP hD hS hl
  have hx := B.1
  have hb := B.2.1
  have hl : lv_has ls 1 [(0, .ref (K 10))] := hl
  refine lv_aload_n hx hb dJ0_length_8abf5_0 rfl (lv_at hl 0 rfl) ?_
  refine uSval B hS mfl_J0_9 dJ0_length_8abf5_1 ?_
  refine uSlen B hS dJ0_length_8abf5_4 ?_
  refine lv_aload_n hx hb dJ0_length_8abf5_5 rfl (lv_at hl 0 rfl) ?_
  refine uTi (As := []) (rest := [.int 65]) (wr := []) [] B hl.1 hP hD hS [] [] rfl rfl rfl (kJ0_coder_7d493_5025 l D K _ ) wd_J0_coder_7d493 mml_J0_335 rfl rfl rfl ⟨Nat.le_of_ble_eq_true rfl, Nat.le_of_ble_eq_true rfl⟩ (Nat.le_of_ble_eq_true rfl) ⟨Nat.le_of_ble_eq_true rfl, Nat.le_of_ble_eq_true rfl⟩ dJ0_length_8abf5_6 (fun r1 u H locs hw hP hD hS => ?_)
  try dsimp only at hw
  rcases hw with rfl
  have hP : va_P D vwCl [] H := hP
  have hD : va_D A [] := hD
  refine lv_pc (q := 9) rfl ?_
  refine lv_ishr hx hb dJ0_length_8abf5_9 ?_
  refine lv_fixi (y := 65) (by decide) ?_
  exact uRi () B rfl (uSub hP [] rfl) (hD.sub [] rfl rfl) hS dJ0_length_8abf5_10
def qkJ0_isLatin1_aae02_5027  : Int32 → (Unit) → Prop := (fun (r : Int32) (u : Unit) => r = 1)
def vkJ0_isLatin1_aae02_5027 (K : Nat → ClassId)  : (Unit) → va_W := (fun (u : Unit) => [])
set_option maxRecDepth 100000 in
theorem kJ0_isLatin1_aae02_5027 (l : Launch) (D : va_G) (K : Nat → ClassId) (sz : Nat)  : uMi l yJ0_isLatin1_aae02 cJ0_isLatin1_aae02 1 (some .boolean) { frames := 0, cells := 0, slots := 0, locals := 0 } [.ref (K 10)] D K [] sz (qkJ0_isLatin1_aae02_5027 ) (vkJ0_isLatin1_aae02_5027 K ) := by
  refine uMet (Qc := uQi D (qkJ0_isLatin1_aae02_5027 ) (vkJ0_isLatin1_aae02_5027 K )) (ret := (some .boolean)) (by decide) (Nat.le_of_ble_eq_true rfl) ?_
  intro p e s m below meth c A ls hAe hsz B hP hD hS hl
  have hx := B.1
  have hb := B.2.1
  have hl : lv_has ls 1 [(0, .ref (K 10))] := hl
  refine uScom B hS mfl_J0_38 dJ0_isLatin1_aae02_0 ?_
  refine lv_if_eq (tgt := 17) hx hb dJ0_isLatin1_aae02_3 (by decide) (fun h9 => absurd h9 (by decide)) (fun _ => ?_)
  refine lv_aload_n hx hb dJ0_isLatin1_aae02_6 rfl (lv_at hl 0 rfl) ?_
  refine uScod B hS mfl_J0_15 dJ0_isLatin1_aae02_7 ?_
  refine lv_if_ne (tgt := 17) hx hb dJ0_isLatin1_aae02_10 (by decide) (fun h9 => absurd (by decide) h9) (fun _ => ?_)
  refine lv_pc (q := 13) rfl ?_
  refine lv_iconst (v := 1) hx hb dJ0_isLatin1_aae02_13 (by decide) ?_
  refine lv_goto (tgt := 18) hx hb dJ0_isLatin1_aae02_14 (by decide) ?_
  exact uRz () B rfl rfl (uSub hP [] rfl) (hD.sub [] rfl rfl) hS dJ0_isLatin1_aae02_18
def qkJ3_checkIndex_8e157_5028 (pn0 : Nat) : Int32 → (Unit) → Prop := (fun (r : Int32) (u : Unit) => r = nI pn0 ∧ (¬ (nI pn0) < 0 ∧ ¬ pn0 < 0 ∧ (nI pn0) < 65 ∧ pn0 < 65))
def vkJ3_checkIndex_8e157_5028 (K : Nat → ClassId) (pn0 : Nat) : (Unit) → va_W := (fun (u : Unit) => [])
set_option maxRecDepth 100000 in
theorem kJ3_checkIndex_8e157_5028 (l : Launch) (D : va_G) (K : Nat → ClassId) (sz : Nat) (pn0 : Nat) (hpn0 : pn0 < 65) : uMi l yJ3_checkIndex_8e157 cJ3_checkIndex_8e157 3 (some .int) { frames := 0, cells := 0, slots := 0, locals := 0 } [.int (nI pn0), .int 65, .null] D K [] sz (qkJ3_checkIndex_8e157_5028 pn0) (vkJ3_checkIndex_8e157_5028 K pn0) := by
  refine uMet (Qc := uQi D (qkJ3_checkIndex_8e157_5028 pn0) (vkJ3_checkIndex_8e157_5028 K pn0)) (ret := (some .int)) (by decide) (Nat.le_of_ble_eq_true rfl) ?_
  intro p e s m below meth c A ls hAe hsz B hP hD hS hl
  have hx := B.1
  have hb := B.2.1
  have hl : lv_has ls 3 [(0, .int (nI pn0)), (1, .int 65), (2, .null)] := hl
  refine lv_iload_n hx hb dJ3_checkIndex_8e157_0 rfl (lv_at hl 0 rfl) ?_
  refine lv_if_lt (tgt := 9) hx hb dJ3_checkIndex_8e157_1 (by decide) (fun c1 => ?_) (fun c1 => ?_)
  · have k_1 : pn0 < 0 := (nI_ltI (a := pn0) (b := 0) (by omega) (by omega)).mp c1
    exfalso; omega
  have k_1 : ¬ pn0 < 0 := fun h9 => c1 ((nI_ltI (a := pn0) (b := 0) (by omega) (by omega)).mpr h9)
  refine lv_iload_n hx hb dJ3_checkIndex_8e157_4 rfl (lv_at hl 0 rfl) ?_
  refine lv_iload_n hx hb dJ3_checkIndex_8e157_5 rfl (lv_at hl 1 rfl) ?_
  refine lv_icmp_lt (tgt := 16) hx hb dJ3_checkIndex_8e157_6 (by decide) (fun c2 => ?_) (fun c2 => ?_)
  · have k_2 : pn0 < 65 := (nI_ltI (a := pn0) (b := 65) (by omega) (by omega)).mp c2
    refine lv_pc (q := 16) rfl ?_
    refine lv_iload_n hx hb dJ3_checkIndex_8e157_16 rfl (lv_at hl 0 rfl) ?_
    exact uRi () B ⟨rfl, ⟨c1, k_1, c2, k_2⟩⟩ (uSub hP [] rfl) (hD.sub [] rfl rfl) hS dJ3_checkIndex_8e157_17
  have k_2 : ¬ pn0 < 65 := fun h9 => c2 ((nI_ltI (a := pn0) (b := 65) (by omega) (by omega)).mpr h9)
  exfalso; omega
def qkJ3_checkIndex_8e157_5029 (pn0 : Nat) (pg1 : Nat) : Int32 → (Unit) → Prop := (fun (r : Int32) (u : Unit) => r = nI pn0 ∧ (¬ (nI pn0) < 0 ∧ ¬ pn0 < 0 ∧ (nI pn0) < 65 ∧ pn0 < 65))
def vkJ3_checkIndex_8e157_5029 (K : Nat → ClassId) (pn0 : Nat) (pg1 : Nat) : (Unit) → va_W := (fun (u : Unit) => [])
set_option maxRecDepth 100000 in
theorem kJ3_checkIndex_8e157_5029 (l : Launch) (D : va_G) (K : Nat → ClassId) (sz : Nat) (pn0 : Nat) (pg1 : Nat) (hpn0 : pn0 < 65) : uMi l yJ3_checkIndex_8e157 cJ3_checkIndex_8e157 3 (some .int) { frames := 0, cells := 0, slots := 0, locals := 0 } [.int (nI pn0), .int 65, .ref pg1] D K [] sz (qkJ3_checkIndex_8e157_5029 pn0 pg1) (vkJ3_checkIndex_8e157_5029 K pn0 pg1) := by
  refine uMet (Qc := uQi D (qkJ3_checkIndex_8e157_5029 pn0 pg1) (vkJ3_checkIndex_8e157_5029 K pn0 pg1)) (ret := (some .int)) (by decide) (Nat.le_of_ble_eq_true rfl) ?_
  intro p e s m below meth c A ls hAe hsz B hP hD hS hl
  have hx := B.1
  have hb := B.2.1
  have hl : lv_has ls 3 [(0, .int (nI pn0)), (1, .int 65), (2, .ref pg1)] := hl
  refine lv_iload_n hx hb dJ3_checkIndex_8e157_0 rfl (lv_at hl 0 rfl) ?_
  refine lv_if_lt (tgt := 9) hx hb dJ3_checkIndex_8e157_1 (by decide) (fun c1 => ?_) (fun c1 => ?_)
  · have k_1 : pn0 < 0 := (nI_ltI (a := pn0) (b := 0) (by omega) (by omega)).mp c1
    exfalso; omega
  have k_1 : ¬ pn0 < 0 := fun h9 => c1 ((nI_ltI (a := pn0) (b := 0) (by omega) (by omega)).mpr h9)
  refine lv_iload_n hx hb dJ3_checkIndex_8e157_4 rfl (lv_at hl 0 rfl) ?_
  refine lv_iload_n hx hb dJ3_checkIndex_8e157_5 rfl (lv_at hl 1 rfl) ?_
  refine lv_icmp_lt (tgt := 16) hx hb dJ3_checkIndex_8e157_6 (by decide) (fun c2 => ?_) (fun c2 => ?_)
  · have k_2 : pn0 < 65 := (nI_ltI (a := pn0) (b := 65) (by omega) (by omega)).mp c2
    refine lv_pc (q := 16) rfl ?_
    refine lv_iload_n hx hb dJ3_checkIndex_8e157_16 rfl (lv_at hl 0 rfl) ?_
    exact uRi () B ⟨rfl, ⟨c1, k_1, c2, k_2⟩⟩ (uSub hP [] rfl) (hD.sub [] rfl rfl) hS dJ3_checkIndex_8e157_17
  have k_2 : ¬ pn0 < 65 := fun h9 => c2 ((nI_ltI (a := pn0) (b := 65) (by omega) (by omega)).mpr h9)
  exfalso; omega
def qkJ0_checkIndex_df160_5030 (pn0 : Nat) : Unit → Prop := (fun (u : Unit) => ((¬ (nI pn0) < 0 ∧ ¬ pn0 < 0 ∧ (nI pn0) < 65 ∧ pn0 < 65) ∨ (¬ (nI pn0) < 0 ∧ ¬ pn0 < 0 ∧ (nI pn0) < 65 ∧ pn0 < 65)))
def vkJ0_checkIndex_df160_5030 (K : Nat → ClassId) (pn0 : Nat) : (Unit) → va_W := (fun (u : Unit) => [])
set_option maxRecDepth 100000 in
theorem kJ0_checkIndex_df160_5030 (l : Launch) (D : va_G) (K : Nat → ClassId) (sz : Nat) (pn0 : Nat) (hpn0 : pn0 < 65) : uMv l yJ0_checkIndex_df160 cJ0_checkIndex_df160 2 { frames := 1, cells := 0, slots := 0, locals := 22 } [.int (nI pn0), .int 65] D K [] sz (qkJ0_checkIndex_df160_5030 pn0) (vkJ0_checkIndex_df160_5030 K pn0) := by
  refine uMet (Qc := uQv D (qkJ0_checkIndex_df160_5030 pn0) (vkJ0_checkIndex_df160_5030 K pn0)) (ret := none) (by decide) (Nat.le_of_ble_eq_true rfl) ?_
  intro p e s m below meth c A ls hAe hsz B hP hD hS hl
  have hx := B.1
  have hb := B.2.1
  have hl : lv_has ls 2 [(0, .int (nI pn0)), (1, .int 65)] := hl
  refine lv_iload_n hx hb dJ0_checkIndex_df160_0 rfl (lv_at hl 0 rfl) ?_
  refine lv_iload_n hx hb dJ0_checkIndex_df160_1 rfl (lv_at hl 1 rfl) ?_
  refine uSfmt B hS mfl_J0_1053 dJ0_checkIndex_df160_2 ?_ (fun t1 => ?_)
  · refine uSi (As := [.int (nI pn0), .int 65, .null]) (rest := []) (wr := []) [] B hl.1 hP hD hS [] [] rfl rfl rfl (kJ3_checkIndex_8e157_5028 l D K _ pn0 (by omega)) wd_J3_checkIndex_8e157 mml_J0_1059 rfl rfl ⟨Nat.le_of_ble_eq_true rfl, Nat.le_of_ble_eq_true rfl⟩ (Nat.le_of_ble_eq_true rfl) ⟨Nat.le_of_ble_eq_true rfl, Nat.le_of_ble_eq_true rfl⟩ dJ0_checkIndex_df160_5 (fun r2 u H locs hw hP hD hS => ?_)
    try dsimp only at hw
    rcases hw with ⟨rfl, ⟨w3, w4, w5, w6⟩⟩
    have hP : va_P D vwCl [] H := hP
    have hD : va_D A [] := hD
    refine lv_pop hx hb dJ0_checkIndex_df160_8 rfl ?_
    refine lv_pc (q := 9) rfl ?_
    exact uRv () B (Or.inl ⟨w3, w4, w5, w6⟩) (uSub hP [] rfl) (hD.sub [] rfl rfl) hS dJ0_checkIndex_df160_9
  refine uSi (As := [.int (nI pn0), .int 65, .ref t1]) (rest := []) (wr := []) [] B hl.1 hP hD hS [] [] rfl rfl rfl (kJ3_checkIndex_8e157_5029 l D K _ pn0 t1 (by omega)) wd_J3_checkIndex_8e157 mml_J0_1059 rfl rfl ⟨Nat.le_of_ble_eq_true rfl, Nat.le_of_ble_eq_true rfl⟩ (Nat.le_of_ble_eq_true rfl) ⟨Nat.le_of_ble_eq_true rfl, Nat.le_of_ble_eq_true rfl⟩ dJ0_checkIndex_df160_5 (fun r7 u H locs hw hP hD hS => ?_)
  try dsimp only at hw
  rcases hw with ⟨rfl, ⟨w8, w9, w10, w11⟩⟩
  have hP : va_P D vwCl [] H := hP
  have hD : va_D A [] := hD
  refine lv_pop hx hb dJ0_checkIndex_df160_8 rfl ?_
  refine lv_pc (q := 9) rfl ?_
  exact uRv () B (Or.inr ⟨w8, w9, w10, w11⟩) (uSub hP [] rfl) (hD.sub [] rfl rfl) hS dJ0_checkIndex_df160_9
def qkJ1_charAt_3b067_5031 (pn0 : Nat) : Int32 → (Unit) → Prop := (fun (r : Int32) (u : Unit) => r = (((uByt.getD pn0 0) &&& 255).toUInt32 % 65536).toInt32 ∧ (((¬ (nI pn0) < 0 ∧ ¬ pn0 < 0 ∧ (nI pn0) < 65 ∧ pn0 < 65) ∨ (¬ (nI pn0) < 0 ∧ ¬ pn0 < 0 ∧ (nI pn0) < 65 ∧ pn0 < 65))))
def vkJ1_charAt_3b067_5031 (K : Nat → ClassId) (pn0 : Nat) : (Unit) → va_W := (fun (u : Unit) => [])
set_option maxRecDepth 100000 in
theorem kJ1_charAt_3b067_5031 (l : Launch) (D : va_G) (K : Nat → ClassId) (sz : Nat) (pn0 : Nat) (hpn0 : pn0 < 65) : uMi l yJ1_charAt_3b067 cJ1_charAt_3b067 2 (some .char) { frames := 2, cells := 0, slots := 0, locals := 43 } [.ref (K 11), .int (nI pn0)] D K [] sz (qkJ1_charAt_3b067_5031 pn0) (vkJ1_charAt_3b067_5031 K pn0) := by
  refine uMet (Qc := uQi D (qkJ1_charAt_3b067_5031 pn0) (vkJ1_charAt_3b067_5031 K pn0)) (ret := (some .char)) (by decide) (Nat.le_of_ble_eq_true rfl) ?_
  intro p e s m below meth c A ls hAe hsz B hP hD hS hl
  have hx := B.1
  have hb := B.2.1
  have hl : lv_has ls 2 [(0, .ref (K 11)), (1, .int (nI pn0))] := hl
  refine lv_iload_n hx hb dJ1_charAt_3b067_0 rfl (lv_at hl 1 rfl) ?_
  refine lv_aload_n hx hb dJ1_charAt_3b067_1 rfl (lv_at hl 0 rfl) ?_
  refine uSlen B hS dJ1_charAt_3b067_2 ?_
  refine uSv (As := [.int (nI pn0), .int 65]) (rest := []) (wr := []) [] B hl.1 hP hD hS [] [] rfl rfl rfl (kJ0_checkIndex_df160_5030 l D K _ pn0 (by omega)) wd_J0_checkIndex_df160 mml_J1_9 rfl rfl ⟨Nat.le_of_ble_eq_true rfl, Nat.le_of_ble_eq_true rfl⟩ (Nat.le_of_ble_eq_true rfl) ⟨Nat.le_of_ble_eq_true rfl, Nat.le_of_ble_eq_true rfl⟩ dJ1_charAt_3b067_3 (fun u H locs hw hP hD hS => ?_)
  try dsimp only at hw
  have w2 := hw
  have hP : va_P D vwCl [] H := hP
  have hD : va_D A [] := hD
  refine lv_aload_n hx hb dJ1_charAt_3b067_6 rfl (lv_at hl 0 rfl) ?_
  refine lv_pc (q := 7) rfl ?_
  refine lv_iload_n hx hb dJ1_charAt_3b067_7 rfl (lv_at hl 1 rfl) ?_
  refine uSbyt (i := (nI pn0)) (j := pn0) B hS (nI_in (by omega) (by omega)) (nI_clamp (by omega)) dJ1_charAt_3b067_8 ?_
  refine lv_sipush (v := 255) hx hb dJ1_charAt_3b067_9 (by decide) ?_
  refine lv_iand hx hb dJ1_charAt_3b067_12 ?_
  refine lv_i2c (v := ((((uByt.getD pn0 0) &&& 255).toUInt32 % 65536).toInt32)) hx hb dJ1_charAt_3b067_13 rfl ?_
  exact uRz () B (pk_nc _) ⟨rfl, w2⟩ (uSub hP [] rfl) (hD.sub [] rfl rfl) hS dJ1_charAt_3b067_14
def qkJ0_charAt_5068e_5032 (pn0 : Nat) : Int32 → (Unit) → Prop := (fun (r : Int32) (u : Unit) => r = (((uByt.getD pn0 0) &&& 255).toUInt32 % 65536).toInt32 ∧ (((¬ (nI pn0) < 0 ∧ ¬ pn0 < 0 ∧ (nI pn0) < 65 ∧ pn0 < 65) ∨ (¬ (nI pn0) < 0 ∧ ¬ pn0 < 0 ∧ (nI pn0) < 65 ∧ pn0 < 65))))
def vkJ0_charAt_5068e_5032 (K : Nat → ClassId) (pn0 : Nat) : (Unit) → va_W := (fun (u : Unit) => [])
set_option maxRecDepth 100000 in
theorem kJ0_charAt_5068e_5032 (l : Launch) (D : va_G) (K : Nat → ClassId) (sz : Nat) (pn0 : Nat) (hpn0 : pn0 < 65) : uMi l yJ0_charAt_5068e cJ0_charAt_5068e 2 (some .char) { frames := 3, cells := 0, slots := 0, locals := 64 } [.ref (K 10), .int (nI pn0)] D K [] sz (qkJ0_charAt_5068e_5032 pn0) (vkJ0_charAt_5068e_5032 K pn0) := by
  refine uMet (Qc := uQi D (qkJ0_charAt_5068e_5032 pn0) (vkJ0_charAt_5068e_5032 K pn0)) (ret := (some .char)) (by decide) (Nat.le_of_ble_eq_true rfl) ?_
  intro p e s m below meth c A ls hAe hsz B hP hD hS hl
  have hx := B.1
  have hb := B.2.1
  have hl : lv_has ls 2 [(0, .ref (K 10)), (1, .int (nI pn0))] := hl
  refine lv_aload_n hx hb dJ0_charAt_5068e_0 rfl (lv_at hl 0 rfl) ?_
  refine uTi (As := []) (rest := []) (wr := []) [] B hl.1 hP hD hS [] [] rfl rfl rfl (kJ0_isLatin1_aae02_5027 l D K _ ) wd_J0_isLatin1_aae02 mml_J0_492 rfl rfl rfl ⟨Nat.le_of_ble_eq_true rfl, Nat.le_of_ble_eq_true rfl⟩ (Nat.le_of_ble_eq_true rfl) ⟨Nat.le_of_ble_eq_true rfl, Nat.le_of_ble_eq_true rfl⟩ dJ0_charAt_5068e_1 (fun r1 u H locs hw hP hD hS => ?_)
  try dsimp only at hw
  rcases hw with rfl
  have hP : va_P D vwCl [] H := hP
  have hD : va_D A [] := hD
  refine lv_if_eq (tgt := 16) hx hb dJ0_charAt_5068e_4 (by decide) (fun h9 => absurd h9 (by decide)) (fun _ => ?_)
  refine lv_aload_n hx hb dJ0_charAt_5068e_7 rfl (lv_at hl 0 rfl) ?_
  refine uSval B hS mfl_J0_9 dJ0_charAt_5068e_8 ?_
  refine lv_pc (q := 11) rfl ?_
  refine lv_iload_n hx hb dJ0_charAt_5068e_11 rfl (lv_at hl 1 rfl) ?_
  refine uSi (As := [.ref (K 11), .int (nI pn0)]) (rest := []) (wr := []) [] B hl.1 hP hD hS [] [] rfl rfl rfl (kJ1_charAt_3b067_5031 l D K _ pn0 (by omega)) wd_J1_charAt_3b067 mml_J0_495 rfl rfl ⟨Nat.le_of_ble_eq_true rfl, Nat.le_of_ble_eq_true rfl⟩ (Nat.le_of_ble_eq_true rfl) ⟨Nat.le_of_ble_eq_true rfl, Nat.le_of_ble_eq_true rfl⟩ dJ0_charAt_5068e_12 (fun r2 u H locs hw hP hD hS => ?_)
  try dsimp only at hw
  rcases hw with ⟨rfl, w3⟩
  have hP : va_P D vwCl [] H := hP
  have hD : va_D A [] := hD
  exact uRz () B (pk_nc _) ⟨rfl, w3⟩ (uSub hP [] rfl) (hD.sub [] rfl rfl) hS dJ0_charAt_5068e_15

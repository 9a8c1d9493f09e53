def qwX10_isLetter_vc (x0 : Nat) : Int32 → (Unit) → Prop := (fun (r : Int32) (u : Unit) => ((r = 0 ∧ (¬ (97 ≤ x0 ∧ x0 ≤ 122))) ∨ (r = 1 ∧ (97 ≤ x0 ∧ x0 ≤ 122))))
def vwX10_isLetter_vc (K : Nat → ClassId) (x0 : Nat) : (Unit) → va_W := (fun (u : Unit) => [])
set_option maxHeartbeats 4000000 in
set_option maxRecDepth 100000 in
theorem wX10_isLetter_vc (l : Launch) (D : va_G) (K : Nat → ClassId) (sz : Nat) (x0 : Nat) (hx0 : x0 < 256) : uMi l yX10_isLetter cX10_isLetter 1 (some .boolean) { frames := 0, cells := 0, slots := 0, locals := 0 } [.int (nI x0)] D K [] sz (qwX10_isLetter_vc x0) (vwX10_isLetter_vc K x0) := by
  refine uMet (Qc := uQi D (qwX10_isLetter_vc x0) (vwX10_isLetter_vc K x0)) (ret := (some .boolean)) (by decide) (Nat.le_of_ble_eq_true rfl) ?_
  intro p e s m below meth c A ls hAe hsz B hP hD hS hl
  have hx := B.1
  have hb := B.2.1
  have hl : lv_has ls 1 [(0, .int (nI x0))] := hl
  refine lv_iload_n hx hb dX10_isLetter_0 rfl (lv_at hl 0 rfl) ?_
  refine lv_bipush (v := 97) hx hb dX10_isLetter_1 (by decide) ?_
  refine lv_icmp_lt (tgt := 16) hx hb dX10_isLetter_3 (by decide) (fun c1 => ?_) (fun c1 => ?_)
  · have k_1 : x0 < 97 := (nI_ltI (a := x0) (b := 97) (by omega) (by omega)).mp c1
    refine lv_iconst (v := 0) hx hb dX10_isLetter_16 (by decide) ?_
    exact uRz () B rfl (Or.inl ⟨rfl, (by first | omega | (dsimp only; omega))⟩) (uSub hP [] rfl) (hD.sub [] rfl rfl) hS dX10_isLetter_17
  have k_1 : ¬ x0 < 97 := fun h9 => c1 ((nI_ltI (a := x0) (b := 97) (by omega) (by omega)).mpr h9)
  refine lv_iload_n hx hb dX10_isLetter_6 rfl (lv_at hl 0 rfl) ?_
  refine lv_bipush (v := 122) hx hb dX10_isLetter_7 (by decide) ?_
  refine lv_pc (q := 9) rfl ?_
  refine lv_icmp_gt (tgt := 16) hx hb dX10_isLetter_9 (by decide) (fun c2 => ?_) (fun c2 => ?_)
  · have k_2 : 122 < x0 := (nI_ltI (a := 122) (b := x0) (by omega) (by omega)).mp c2
    refine lv_iconst (v := 0) hx hb dX10_isLetter_16 (by decide) ?_
    exact uRz () B rfl (Or.inl ⟨rfl, (by first | omega | (dsimp only; omega))⟩) (uSub hP [] rfl) (hD.sub [] rfl rfl) hS dX10_isLetter_17
  have k_2 : ¬ 122 < x0 := fun h9 => c2 ((nI_ltI (a := 122) (b := x0) (by omega) (by omega)).mpr h9)
  refine lv_iconst (v := 1) hx hb dX10_isLetter_12 (by decide) ?_
  refine lv_goto (tgt := 17) hx hb dX10_isLetter_13 (by decide) ?_
  exact uRz () B rfl (Or.inr ⟨rfl, (by first | omega | (dsimp only; omega))⟩) (uSub hP [] rfl) (hD.sub [] rfl rfl) hS dX10_isLetter_17
def qwX10_isDigit_vc (x0 : Nat) : Int32 → (Unit) → Prop := (fun (r : Int32) (u : Unit) => ((r = 0 ∧ (¬ (48 ≤ x0 ∧ x0 ≤ 57))) ∨ (r = 1 ∧ (48 ≤ x0 ∧ x0 ≤ 57))))
def vwX10_isDigit_vc (K : Nat → ClassId) (x0 : Nat) : (Unit) → va_W := (fun (u : Unit) => [])
set_option maxHeartbeats 4000000 in
set_option maxRecDepth 100000 in
theorem wX10_isDigit_vc (l : Launch) (D : va_G) (K : Nat → ClassId) (sz : Nat) (x0 : Nat) (hx0 : x0 < 256) : uMi l yX10_isDigit cX10_isDigit 1 (some .boolean) { frames := 0, cells := 0, slots := 0, locals := 0 } [.int (nI x0)] D K [] sz (qwX10_isDigit_vc x0) (vwX10_isDigit_vc K x0) := by
  refine uMet (Qc := uQi D (qwX10_isDigit_vc x0) (vwX10_isDigit_vc K x0)) (ret := (some .boolean)) (by decide) (Nat.le_of_ble_eq_true rfl) ?_
  intro p e s m below meth c A ls hAe hsz B hP hD hS hl
  have hx := B.1
  have hb := B.2.1
  have hl : lv_has ls 1 [(0, .int (nI x0))] := hl
  refine lv_iload_n hx hb dX10_isDigit_0 rfl (lv_at hl 0 rfl) ?_
  refine lv_bipush (v := 48) hx hb dX10_isDigit_1 (by decide) ?_
  refine lv_icmp_lt (tgt := 16) hx hb dX10_isDigit_3 (by decide) (fun c1 => ?_) (fun c1 => ?_)
  · have k_1 : x0 < 48 := (nI_ltI (a := x0) (b := 48) (by omega) (by omega)).mp c1
    refine lv_iconst (v := 0) hx hb dX10_isDigit_16 (by decide) ?_
    exact uRz () B rfl (Or.inl ⟨rfl, (by first | omega | (dsimp only; omega))⟩) (uSub hP [] rfl) (hD.sub [] rfl rfl) hS dX10_isDigit_17
  have k_1 : ¬ x0 < 48 := fun h9 => c1 ((nI_ltI (a := x0) (b := 48) (by omega) (by omega)).mpr h9)
  refine lv_iload_n hx hb dX10_isDigit_6 rfl (lv_at hl 0 rfl) ?_
  refine lv_bipush (v := 57) hx hb dX10_isDigit_7 (by decide) ?_
  refine lv_pc (q := 9) rfl ?_
  refine lv_icmp_gt (tgt := 16) hx hb dX10_isDigit_9 (by decide) (fun c2 => ?_) (fun c2 => ?_)
  · have k_2 : 57 < x0 := (nI_ltI (a := 57) (b := x0) (by omega) (by omega)).mp c2
    refine lv_iconst (v := 0) hx hb dX10_isDigit_16 (by decide) ?_
    exact uRz () B rfl (Or.inl ⟨rfl, (by first | omega | (dsimp only; omega))⟩) (uSub hP [] rfl) (hD.sub [] rfl rfl) hS dX10_isDigit_17
  have k_2 : ¬ 57 < x0 := fun h9 => c2 ((nI_ltI (a := 57) (b := x0) (by omega) (by omega)).mpr h9)
  refine lv_iconst (v := 1) hx hb dX10_isDigit_12 (by decide) ?_
  refine lv_goto (tgt := 17) hx hb dX10_isDigit_13 (by decide) ?_
  exact uRz () B rfl (Or.inr ⟨rfl, (by first | omega | (dsimp only; omega))⟩) (uSub hP [] rfl) (hD.sub [] rfl rfl) hS dX10_isDigit_17
def qwX10_withLetter_vc (x0 : Int64) (x1 : Nat) : Int64 → (Unit) → Prop := (fun (r : Int64) (u : Unit) => r = x0 * 32 + (nI (x1 - 97 + 1)).toInt64)
def vwX10_withLetter_vc (K : Nat → ClassId) (x0 : Int64) (x1 : Nat) : (Unit) → va_W := (fun (u : Unit) => [])
set_option maxHeartbeats 4000000 in
set_option maxRecDepth 100000 in
theorem wX10_withLetter_vc (l : Launch) (D : va_G) (K : Nat → ClassId) (sz : Nat) (x0 : Int64) (x1 : Nat) (hx1 : x1 < 256) (hpre0 : 97 ≤ x1) : uMl l yX10_withLetter cX10_withLetter 3 (some .long) { frames := 0, cells := 0, slots := 0, locals := 0 } [.long x0, .int (nI x1)] D K [] sz (qwX10_withLetter_vc x0 x1) (vwX10_withLetter_vc K x0 x1) := by
  refine uMet (Qc := uQl D (qwX10_withLetter_vc x0 x1) (vwX10_withLetter_vc K x0 x1)) (ret := (some .long)) (by decide) (Nat.le_of_ble_eq_true rfl) ?_
  intro p e s m below meth c A ls hAe hsz B hP hD hS hl
  have hx := B.1
  have hb := B.2.1
  have hl : lv_has ls 3 [(0, .long x0), (2, .int (nI x1))] := hl
  refine lv_lload_n hx hb dX10_withLetter_0 rfl (lv_at hl 0 rfl) ?_
  refine uLdc2 B mct_X10_60 dX10_withLetter_1 ?_
  refine lv_lmul hx hb dX10_withLetter_4 ?_
  refine lv_iload_n hx hb dX10_withLetter_5 rfl (lv_at hl 1 rfl) ?_
  refine lv_bipush (v := 97) hx hb dX10_withLetter_6 (by decide) ?_
  refine lv_pc (q := 8) rfl ?_
  refine lv_isub hx hb dX10_withLetter_8 ?_
  refine lv_fixi (y := (nI (x1 - 97))) (by rw [show (97 : Int32) = nI 97 from rfl, pk_sub (by omega)]) ?_
  refine lv_iconst (v := 1) hx hb dX10_withLetter_9 (by decide) ?_
  refine lv_iadd hx hb dX10_withLetter_10 ?_
  refine lv_fixi (y := (nI ((x1 - 97) + 1))) (by rw [show (1 : Int32) = nI 1 from rfl, nI_add]) ?_
  refine lv_i2l (v := ((nI ((x1 - 97) + 1)).toInt64)) hx hb dX10_withLetter_11 rfl ?_
  refine lv_ladd hx hb dX10_withLetter_12 ?_
  exact uRl () B rfl (uSub hP [] rfl) (hD.sub [] rfl rfl) hS dX10_withLetter_13
def qwX10_keyOf_vc (a_K : Nat) (v_K_size : Nat) (v_K_length : Nat) (v_K_next : Nat) (v_K_kind : Nat) (v_K_place : Nat) (v_K_number : Nat) (v_K_name : Int64) (v_K_key : Int32) (a_K_keyNames : Nat) (f_K_keyNames : Nat → Int64) (a_K_bytes : Nat) (x0 : Int64) : Int32 → (Unit) → Prop := (fun (r : Int32) (u : Unit) => urKo f_K_keyNames x0 r)
def vwX10_keyOf_vc (K : Nat → ClassId) (a_K : Nat) (v_K_size : Nat) (v_K_length : Nat) (v_K_next : Nat) (v_K_kind : Nat) (v_K_place : Nat) (v_K_number : Nat) (v_K_name : Int64) (v_K_key : Int32) (a_K_keyNames : Nat) (f_K_keyNames : Nat → Int64) (a_K_bytes : Nat) (x0 : Int64) : (Unit) → va_W := (fun (u : Unit) => [(a_K, .inr (10, [.ref a_K_bytes, .ref a_K_keyNames, .int (nI v_K_size), .int (nI v_K_length), .int (nI v_K_next), .int (nI v_K_kind), .int (nI v_K_place), .int (nI v_K_number), .long v_K_name, .int v_K_key])), (a_K_keyNames, .inl (K 2, 13, .inr (.inl f_K_keyNames)))])
set_option maxHeartbeats 4000000 in
set_option maxRecDepth 100000 in
theorem wX10_keyOf_vc (l : Launch) (D : va_G) (K : Nat → ClassId) (sz : Nat) (a_K : Nat) (v_K_size : Nat) (v_K_length : Nat) (v_K_next : Nat) (v_K_kind : Nat) (v_K_place : Nat) (v_K_number : Nat) (v_K_name : Int64) (v_K_key : Int32) (a_K_keyNames : Nat) (f_K_keyNames : Nat → Int64) (a_K_bytes : Nat) (x0 : Int64) (hv_K_size : v_K_size ≤ 1000) (hv_K_length : v_K_length ≤ 1000) (hv_K_next : v_K_next ≤ 1000) (hv_K_kind : v_K_kind ≤ 5) (hv_K_place : v_K_place ≤ 1000) (hv_K_number : v_K_number ≤ 1000) : uMi l yX10_keyOf cX10_keyOf 4 (some .int) { frames := 0, cells := 0, slots := 0, locals := 0 } [.ref a_K, .long x0] D K [(a_K, .inr (10, [.ref a_K_bytes, .ref a_K_keyNames, .int (nI v_K_size), .int (nI v_K_length), .int (nI v_K_next), .int (nI v_K_kind), .int (nI v_K_place), .int (nI v_K_number), .long v_K_name, .int v_K_key])), (a_K_keyNames, .inl (K 2, 13, .inr (.inl f_K_keyNames)))] sz (qwX10_keyOf_vc a_K v_K_size v_K_length v_K_next v_K_kind v_K_place v_K_number v_K_name v_K_key a_K_keyNames f_K_keyNames a_K_bytes x0) (vwX10_keyOf_vc K a_K v_K_size v_K_length v_K_next v_K_kind v_K_place v_K_number v_K_name v_K_key a_K_keyNames f_K_keyNames a_K_bytes x0) := by
  refine uMet (Qc := uQi D (qwX10_keyOf_vc a_K v_K_size v_K_length v_K_next v_K_kind v_K_place v_K_number v_K_name v_K_key a_K_keyNames f_K_keyNames a_K_bytes x0) (vwX10_keyOf_vc K a_K v_K_size v_K_length v_K_next v_K_kind v_K_place v_K_number v_K_name v_K_key a_K_keyNames f_K_keyNames a_K_bytes x0)) (ret := (some .int)) (by decide) (Nat.le_of_ble_eq_true rfl) ?_
  intro p e s m below meth c A ls hAe hsz B hP hD hS hl
  have hx := B.1
  have hb := B.2.1
  have hl : lv_has ls 4 [(0, .ref a_K), (1, .long x0)] := hl
  refine lv_iconst (v := 0) hx hb dX10_keyOf_0 (by decide) ?_
  refine lv_istore_n (lv' := [(3, .int 0), (0, .ref a_K), (1, .long x0)]) hx hb dX10_keyOf_1 rfl hl (by decide) rfl (fun ls hl => ?_)
  have L4 : ∀ (n9 : Nat) (j1 : Nat), (j1 ≤ 13) → (urNl f_K_keyNames x0 j1) → 13 - j1 < n9 → ∀ (H : Heap) (locs : List Loc) (ls : Array Slot), va_P D vwCl [(a_K, .inr (10, [.ref a_K_bytes, .ref a_K_keyNames, .int (nI v_K_size), .int (nI v_K_length), .int (nI v_K_next), .int (nI v_K_kind), .int (nI v_K_place), .int (nI v_K_number), .long v_K_name, .int v_K_key])), (a_K_keyNames, .inl (K 2, 13, .inr (.inl f_K_keyNames)))] H → va_D A [(a_K, .inr (10, [.ref a_K_bytes, .ref a_K_keyNames, .int (nI v_K_size), .int (nI v_K_length), .int (nI v_K_next), .int (nI v_K_kind), .int (nI v_K_place), .int (nI v_K_number), .long v_K_name, .int v_K_key])), (a_K_keyNames, .inl (K 2, 13, .inr (.inl f_K_keyNames)))] → va_S A s.heap H locs → lv_has ls 4 [(3, .int (nI j1)), (0, .ref a_K), (1, .long x0)] → W p l e { frames := 0, cells := 0, slots := 0, locals := 0 } s m ([.ref a_K, .long x0] : List Value).toArray below meth c H locs 0 0 (MQ below (uQi D (qwX10_keyOf_vc a_K v_K_size v_K_length v_K_next v_K_kind v_K_place v_K_number v_K_name v_K_key a_K_keyNames f_K_keyNames a_K_bytes x0) (vwX10_keyOf_vc K a_K v_K_size v_K_length v_K_next v_K_kind v_K_place v_K_number v_K_name v_K_key a_K_keyNames f_K_keyNames a_K_bytes x0) A) ([.ref a_K, .long x0] : List Value).toArray s 0 0 A) (F0 m 2 ls []) := by
    intro n9
    induction n9 with
    | zero => intros; exact absurd ‹_ < 0› (Nat.not_lt_zero _)
    | succ n2_ ih2 =>
      intro j1 hj1 xn_2 hm2 H locs ls hP hD hS hl
      refine lv_iload_n hx hb dX10_keyOf_2 rfl (lv_at hl 0 rfl) ?_
      refine lv_bipush (v := 13) hx hb dX10_keyOf_3 (by decide) ?_
      refine lv_icmp_ge (tgt := 27) hx hb dX10_keyOf_5 (by decide) (fun c5 => ?_) (fun c5 => ?_)
      · have k_5 : 13 ≤ j1 := (nI_leI (a := 13) (b := j1) (by omega) (by omega)).mp c5
        refine lv_pc (q := 27) rfl ?_
        refine lv_iconst (v := (-1)) hx hb dX10_keyOf_27 (by decide) ?_
        exact uRi () B (urKo0 (by omega) xn_2) (uSub hP [0, 1] rfl) (hD.sub [0, 1] rfl rfl) hS dX10_keyOf_28
      have k_5 : ¬ 13 ≤ j1 := fun h9 => c5 ((nI_leI (a := 13) (b := j1) (by omega) (by omega)).mpr h9)
      refine lv_pc (q := 8) rfl ?_
      refine lv_aload_n hx hb dX10_keyOf_8 rfl (lv_at hl 1 rfl) ?_
      refine uGet (ci := 10) (C := RX10) (T := TX10) (N := 10) (v := .ref a_K_keyNames) B inlX10 hP 0 rfl rfl 1 rfl mfl_X10_15 rfl rfl dX10_keyOf_9 ?_
      refine lv_iload_n hx hb dX10_keyOf_12 rfl (lv_at hl 0 rfl) ?_
      refine uLald (i := (nI j1)) (j := j1) B hP 1 rfl (nI_in (by omega) (by omega)) (nI_clamp (by omega)) dX10_keyOf_13 ?_
      refine lv_lload_n hx hb dX10_keyOf_14 rfl (lv_at hl 2 rfl) ?_
      refine W.lcmp hx hb dX10_keyOf_15 ?_
      refine lv_topi (fun y6 ey6 => ?_)
      refine lv_pc (q := 16) rfl ?_
      refine lv_if_ne (tgt := 21) hx hb dX10_keyOf_16 (by decide) (fun c7 => ?_) (fun c7 => ?_)
      · refine lv_iinc (v := nI (j1 + 1)) (lv' := [(3, .int (nI (j1 + 1))), (0, .ref a_K), (1, .long x0)]) hx hb dX10_keyOf_21 hl (k := 0) rfl (nI_1 _) (by decide) rfl (fun ls hl => ?_)
        refine lv_goto (tgt := 2) hx hb dX10_keyOf_24 (by decide) ?_
        refine lv_pc (q := 2) rfl ?_
        refine W.widen (k := 0) (n := 0) (Nat.le_of_ble_eq_true rfl) (Nat.le_of_ble_eq_true rfl) ?_
        exact ih2 (j1 + 1) (by omega) (urNlS xn_2 (urCn ey6 c7)) (by omega) _ _ _ (uSub hP [0, 1] rfl) (hD.sub [0, 1] rfl rfl) hS (lv_sub hl [0, 1, 2] rfl)
      refine lv_iload_n hx hb dX10_keyOf_19 rfl (lv_at hl 0 rfl) ?_
      exact uRi () B (urKo1 (by omega) (urCe ey6 c7)) (uSub hP [0, 1] rfl) (hD.sub [0, 1] rfl rfl) hS dX10_keyOf_20
  refine lv_pc (q := 2) rfl ?_
  refine W.widen (k := 0) (n := 0) (Nat.le_of_ble_eq_true rfl) (Nat.le_of_ble_eq_true rfl) ?_
  exact L4 ((13 - 0) + 1) 0 (by omega) urNl0 (Nat.lt_succ_self _) _ _ _ hP hD hS hl
def qwX10_takeName_vc (a_K : Nat) (v_K_size : Nat) (v_K_length : Nat) (v_K_next : Nat) (v_K_kind : Nat) (v_K_place : Nat) (v_K_number : Nat) (v_K_name : Int64) (v_K_key : Int32) (a_K_bytes : Nat) (f_K_bytes : Nat → Int32) (a_K_keyNames : Nat) (f_K_keyNames : Nat → Int64) : (Nat × Nat × Int64 × Int32) → Prop := (fun (u : Nat × Nat × Int64 × Int32) => (u.1 ≤ 1000) ∧ (u.2.1 ≤ 5) ∧ (u.1 = urTo (urLt f_K_bytes) v_K_length v_K_next) ∧ (urNk f_K_keyNames f_K_bytes v_K_next u.1 u.2.1 u.2.2.1 u.2.2.2 v_K_key))
def vwX10_takeName_vc (K : Nat → ClassId) (a_K : Nat) (v_K_size : Nat) (v_K_length : Nat) (v_K_next : Nat) (v_K_kind : Nat) (v_K_place : Nat) (v_K_number : Nat) (v_K_name : Int64) (v_K_key : Int32) (a_K_bytes : Nat) (f_K_bytes : Nat → Int32) (a_K_keyNames : Nat) (f_K_keyNames : Nat → Int64) : (Nat × Nat × Int64 × Int32) → va_W := (fun (u : Nat × Nat × Int64 × Int32) => [(a_K, .inr (10, [.ref a_K_bytes, .ref a_K_keyNames, .int (nI v_K_size), .int (nI v_K_length), .int (nI ((u.1))), .int (nI ((u.2.1))), .int (nI v_K_place), .int (nI v_K_number), .long u.2.2.1, .int u.2.2.2])), (a_K_bytes, .inl (K 0, 1000, .inl f_K_bytes)), (a_K_keyNames, .inl (K 2, 13, .inr (.inl f_K_keyNames)))])
set_option maxHeartbeats 4000000 in
set_option maxRecDepth 100000 in
theorem wX10_takeName_vc (l : Launch) (D : va_G) (K : Nat → ClassId) (sz : Nat) (a_K : Nat) (v_K_size : Nat) (v_K_length : Nat) (v_K_next : Nat) (v_K_kind : Nat) (v_K_place : Nat) (v_K_number : Nat) (v_K_name : Int64) (v_K_key : Int32) (a_K_bytes : Nat) (f_K_bytes : Nat → Int32) (a_K_keyNames : Nat) (f_K_keyNames : Nat → Int64) (hv_K_size : v_K_size ≤ 1000) (hv_K_length : v_K_length ≤ 1000) (hv_K_next : v_K_next ≤ 1000) (hv_K_kind : v_K_kind ≤ 5) (hv_K_place : v_K_place ≤ 1000) (hv_K_number : v_K_number ≤ 1000) (r_K_bytes : uRg f_K_bytes 0 255) (hpre0 : v_K_place = v_K_next) (hpre1 : v_K_next ≤ v_K_length) : uMv l yX10_takeName cX10_takeName 1 { frames := 1, cells := 0, slots := 0, locals := 23 } [.ref a_K] D K [(a_K, .inr (10, [.ref a_K_bytes, .ref a_K_keyNames, .int (nI v_K_size), .int (nI v_K_length), .int (nI v_K_next), .int (nI v_K_kind), .int (nI v_K_place), .int (nI v_K_number), .long v_K_name, .int v_K_key])), (a_K_bytes, .inl (K 0, 1000, .inl f_K_bytes)), (a_K_keyNames, .inl (K 2, 13, .inr (.inl f_K_keyNames)))] sz (qwX10_takeName_vc a_K v_K_size v_K_length v_K_next v_K_kind v_K_place v_K_number v_K_name v_K_key a_K_bytes f_K_bytes a_K_keyNames f_K_keyNames) (vwX10_takeName_vc K a_K v_K_size v_K_length v_K_next v_K_kind v_K_place v_K_number v_K_name v_K_key a_K_bytes f_K_bytes a_K_keyNames f_K_keyNames) := by
  refine uMet (Qc := uQv D (qwX10_takeName_vc a_K v_K_size v_K_length v_K_next v_K_kind v_K_place v_K_number v_K_name v_K_key a_K_bytes f_K_bytes a_K_keyNames f_K_keyNames) (vwX10_takeName_vc K a_K v_K_size v_K_length v_K_next v_K_kind v_K_place v_K_number v_K_name v_K_key a_K_bytes f_K_bytes a_K_keyNames f_K_keyNames)) (ret := none) (by decide) (Nat.le_of_ble_eq_true rfl) ?_
  intro p e s m below meth c A ls hAe hsz B hP hD hS hl
  have hx := B.1
  have hb := B.2.1
  have hl : lv_has ls 1 [(0, .ref a_K)] := hl
  refine lv_aload_n hx hb dX10_takeName_0 rfl (lv_at hl 0 rfl) ?_
  refine lv_lconst (v := 0) hx hb dX10_takeName_1 rfl ?_
  refine uPut (ci := 10) (C := RX10) (T := TX10) (N := 10) (ws' := [(a_K, .inr (10, [.ref a_K_bytes, .ref a_K_keyNames, .int (nI v_K_size), .int (nI v_K_length), .int (nI v_K_next), .int (nI v_K_kind), .int (nI v_K_place), .int (nI v_K_number), .long 0, .int v_K_key])), (a_K_bytes, .inl (K 0, 1000, .inl f_K_bytes)), (a_K_keyNames, .inl (K 2, 13, .inr (.inl f_K_keyNames)))]) B inlX10 tyX10_ok nmX10 hP hD hS 0 rfl rfl 8 rfl mfl_X10_38 rfl rfl rfl rfl rfl rfl dX10_takeName_2 (fun H locs hP hD hS => ?_)
  have L8 : ∀ (n9 : Nat) (y1 : Nat) (y2 : Int64), (y1 ≤ 1000) → (v_K_next ≤ y1) → (y1 ≤ v_K_length ∨ y1 = v_K_next) → (urSp (urLt f_K_bytes) v_K_next y1) → (urNi 32 f_K_bytes v_K_next y1 y2) → v_K_length - y1 < n9 → ∀ (H : Heap) (locs : List Loc) (ls : Array Slot), va_P D vwCl [(a_K, .inr (10, [.ref a_K_bytes, .ref a_K_keyNames, .int (nI v_K_size), .int (nI v_K_length), .int (nI y1), .int (nI v_K_kind), .int (nI v_K_place), .int (nI v_K_number), .long y2, .int v_K_key])), (a_K_bytes, .inl (K 0, 1000, .inl f_K_bytes)), (a_K_keyNames, .inl (K 2, 13, .inr (.inl f_K_keyNames)))] H → va_D A [(a_K, .inr (10, [.ref a_K_bytes, .ref a_K_keyNames, .int (nI v_K_size), .int (nI v_K_length), .int (nI y1), .int (nI v_K_kind), .int (nI v_K_place), .int (nI v_K_number), .long y2, .int v_K_key])), (a_K_bytes, .inl (K 0, 1000, .inl f_K_bytes)), (a_K_keyNames, .inl (K 2, 13, .inr (.inl f_K_keyNames)))] → va_S A s.heap H locs → lv_has ls 1 [(0, .ref a_K)] → W p l e { frames := 1, cells := 0, slots := 0, locals := 23 } s m ([.ref a_K] : List Value).toArray below meth c H locs 0 0 (MQ below (uQv D (qwX10_takeName_vc a_K v_K_size v_K_length v_K_next v_K_kind v_K_place v_K_number v_K_name v_K_key a_K_bytes f_K_bytes a_K_keyNames f_K_keyNames) (vwX10_takeName_vc K a_K v_K_size v_K_length v_K_next v_K_kind v_K_place v_K_number v_K_name v_K_key a_K_bytes f_K_bytes a_K_keyNames f_K_keyNames) A) ([.ref a_K] : List Value).toArray s 0 0 A) (F0 m 5 ls []) := by
    intro n9
    induction n9 with
    | zero => intros; exact absurd ‹_ < 0› (Nat.not_lt_zero _)
    | succ n5_ ih5 =>
      intro y1 y2 hy1 xa_3 xb_4 xs_5 xm_6 hm5 H locs ls hP hD hS hl
      refine lv_aload_n hx hb dX10_takeName_5 rfl (lv_at hl 0 rfl) ?_
      refine uGet (ci := 10) (C := RX10) (T := TX10) (N := 10) (v := .int (nI y1)) B inlX10 hP 0 rfl rfl 4 rfl mfl_X10_26 rfl rfl dX10_takeName_6 ?_
      refine lv_pc (q := 9) rfl ?_
      refine lv_aload_n hx hb dX10_takeName_9 rfl (lv_at hl 0 rfl) ?_
      refine uGet (ci := 10) (C := RX10) (T := TX10) (N := 10) (v := .int (nI v_K_length)) B inlX10 hP 0 rfl rfl 3 rfl mfl_X10_23 rfl rfl dX10_takeName_10 ?_
      refine lv_icmp_ge (tgt := 78) hx hb dX10_takeName_13 (by decide) (fun c9 => ?_) (fun c9 => ?_)
      · have k_9 : v_K_length ≤ y1 := (nI_leI (a := v_K_length) (b := y1) (by omega) (by omega)).mp c9
        refine lv_aload_n hx hb dX10_takeName_78 rfl (lv_at hl 0 rfl) ?_
        refine lv_aload_n hx hb dX10_takeName_79 rfl (lv_at hl 0 rfl) ?_
        refine uGet (ci := 10) (C := RX10) (T := TX10) (N := 10) (v := .int (nI y1)) B inlX10 hP 0 rfl rfl 4 rfl mfl_X10_26 rfl rfl dX10_takeName_80 ?_
        refine lv_pc (q := 83) rfl ?_
        refine lv_aload_n hx hb dX10_takeName_83 rfl (lv_at hl 0 rfl) ?_
        refine uGet (ci := 10) (C := RX10) (T := TX10) (N := 10) (v := .int (nI v_K_place)) B inlX10 hP 0 rfl rfl 6 rfl mfl_X10_32 rfl rfl dX10_takeName_84 ?_
        refine lv_isub hx hb dX10_takeName_87 ?_
        refine lv_fixi (y := (nI (y1 - v_K_place))) (by rw [pk_sub (by omega)]) ?_
        refine lv_bipush (v := 8) hx hb dX10_takeName_88 (by decide) ?_
        refine lv_icmp_le (tgt := 97) hx hb dX10_takeName_90 (by decide) (fun c10 => ?_) (fun c10 => ?_)
        · have k_10 : (y1 - v_K_place) ≤ 8 := (nI_leI (a := y1 - v_K_place) (b := 8) (by omega) (by omega)).mp c10
          refine lv_iconst (v := 1) hx hb dX10_takeName_97 (by decide) ?_
          refine lv_pc (q := 98) rfl ?_
          refine uPut (ci := 10) (C := RX10) (T := TX10) (N := 10) (ws' := [(a_K, .inr (10, [.ref a_K_bytes, .ref a_K_keyNames, .int (nI v_K_size), .int (nI v_K_length), .int (nI y1), .int 1, .int (nI v_K_place), .int (nI v_K_number), .long y2, .int v_K_key])), (a_K_bytes, .inl (K 0, 1000, .inl f_K_bytes)), (a_K_keyNames, .inl (K 2, 13, .inr (.inl f_K_keyNames)))]) B inlX10 tyX10_ok nmX10 hP hD hS 0 rfl rfl 5 rfl mfl_X10_29 rfl rfl rfl rfl rfl rfl dX10_takeName_98 (fun H locs hP hD hS => ?_)
          refine lv_aload_n hx hb dX10_takeName_101 rfl (lv_at hl 0 rfl) ?_
          refine uGet (ci := 10) (C := RX10) (T := TX10) (N := 10) (v := .int 1) B inlX10 hP 0 rfl rfl 5 rfl mfl_X10_29 rfl rfl dX10_takeName_102 ?_
          refine lv_iconst (v := 1) hx hb dX10_takeName_105 (by decide) ?_
          refine lv_icmp_ne (tgt := 121) hx hb dX10_takeName_106 (by decide) (fun h9 => absurd (by decide) h9) (fun _ => ?_)
          refine lv_aload_n hx hb dX10_takeName_109 rfl (lv_at hl 0 rfl) ?_
          refine lv_pc (q := 110) rfl ?_
          refine lv_aload_n hx hb dX10_takeName_110 rfl (lv_at hl 0 rfl) ?_
          refine lv_aload_n hx hb dX10_takeName_111 rfl (lv_at hl 0 rfl) ?_
          refine uGet (ci := 10) (C := RX10) (T := TX10) (N := 10) (v := .long y2) B inlX10 hP 0 rfl rfl 8 rfl mfl_X10_38 rfl rfl dX10_takeName_112 ?_
          refine uViJ (As := [.long y2]) (rest := [.ref a_K]) (wr := [(a_K_bytes, .inl (K 0, 1000, .inl f_K_bytes))]) (wX10_keyOf_vc l D K _ a_K v_K_size v_K_length y1 1 v_K_place v_K_number y2 v_K_key a_K_keyNames f_K_keyNames a_K_bytes y2 (by omega) (by omega) (by omega) (by omega) (by omega) (by omega)) B hl.1 hP hD hS [0, 2] [1] rfl rfl rfl wd_X10_keyOf mml_X10_81 rfl rfl rfl rfl ⟨Nat.le_of_ble_eq_true rfl, Nat.le_of_ble_eq_true rfl⟩ (Nat.le_of_ble_eq_true rfl) ⟨Nat.le_of_ble_eq_true rfl, Nat.le_of_ble_eq_true rfl⟩ dX10_takeName_115 (fun r11 u H locs hw hP hD hS => ?_)
          try dsimp only at hw
          have w12 := hw
          have hP : va_P D vwCl [(a_K_bytes, .inl (K 0, 1000, .inl f_K_bytes)), (a_K, .inr (10, [.ref a_K_bytes, .ref a_K_keyNames, .int (nI v_K_size), .int (nI v_K_length), .int (nI y1), .int 1, .int (nI v_K_place), .int (nI v_K_number), .long y2, .int v_K_key])), (a_K_keyNames, .inl (K 2, 13, .inr (.inl f_K_keyNames)))] H := hP
          have hD := uDPJ hP hD
          refine uPut (ci := 10) (C := RX10) (T := TX10) (N := 10) (ws' := [(a_K_bytes, .inl (K 0, 1000, .inl f_K_bytes)), (a_K, .inr (10, [.ref a_K_bytes, .ref a_K_keyNames, .int (nI v_K_size), .int (nI v_K_length), .int (nI y1), .int 1, .int (nI v_K_place), .int (nI v_K_number), .long y2, .int r11])), (a_K_keyNames, .inl (K 2, 13, .inr (.inl f_K_keyNames)))]) B inlX10 tyX10_ok nmX10 hP hD hS 1 rfl rfl 9 rfl mfl_X10_42 rfl rfl rfl rfl rfl rfl dX10_takeName_118 (fun H locs hP hD hS => ?_)
          exact uRv (y1, 1, y2, r11) B ⟨(by (try dsimp only); omega), (by (try dsimp only); omega), (urToE1 (by omega) (by omega) xs_5 (by omega)), (Or.inr ⟨(by first | omega | (dsimp only; omega)), rfl, (urNiE xm_6 (by omega)), w12⟩)⟩ (uSub hP [1, 0, 2] rfl) (hD.sub [1, 0, 2] rfl rfl) hS dX10_takeName_121
        have k_10 : ¬ (y1 - v_K_place) ≤ 8 := fun h9 => c10 ((nI_leI (a := y1 - v_K_place) (b := 8) (by omega) (by omega)).mpr h9)
        refine lv_iconst (v := 5) hx hb dX10_takeName_93 (by decide) ?_
        refine lv_pc (q := 94) rfl ?_
        refine lv_goto (tgt := 98) hx hb dX10_takeName_94 (by decide) ?_
        refine uPut (ci := 10) (C := RX10) (T := TX10) (N := 10) (ws' := [(a_K, .inr (10, [.ref a_K_bytes, .ref a_K_keyNames, .int (nI v_K_size), .int (nI v_K_length), .int (nI y1), .int 5, .int (nI v_K_place), .int (nI v_K_number), .long y2, .int v_K_key])), (a_K_bytes, .inl (K 0, 1000, .inl f_K_bytes)), (a_K_keyNames, .inl (K 2, 13, .inr (.inl f_K_keyNames)))]) B inlX10 tyX10_ok nmX10 hP hD hS 0 rfl rfl 5 rfl mfl_X10_29 rfl rfl rfl rfl rfl rfl dX10_takeName_98 (fun H locs hP hD hS => ?_)
        refine lv_aload_n hx hb dX10_takeName_101 rfl (lv_at hl 0 rfl) ?_
        refine uGet (ci := 10) (C := RX10) (T := TX10) (N := 10) (v := .int 5) B inlX10 hP 0 rfl rfl 5 rfl mfl_X10_29 rfl rfl dX10_takeName_102 ?_
        refine lv_iconst (v := 1) hx hb dX10_takeName_105 (by decide) ?_
        refine lv_icmp_ne (tgt := 121) hx hb dX10_takeName_106 (by decide) (fun _ => ?_) (fun h9 => absurd h9 (by decide))
        refine lv_pc (q := 121) rfl ?_
        exact uRv (y1, 5, y2, v_K_key) B ⟨(by (try dsimp only); omega), (by (try dsimp only); omega), (urToE1 (by omega) (by omega) xs_5 (by omega)), (Or.inl ⟨(by first | omega | (dsimp only; omega)), rfl, rfl⟩)⟩ (uSub hP [0, 1, 2] rfl) (hD.sub [0, 1, 2] rfl rfl) hS dX10_takeName_121
      have k_9 : ¬ v_K_length ≤ y1 := fun h9 => c9 ((nI_leI (a := v_K_length) (b := y1) (by omega) (by omega)).mpr h9)
      refine lv_aload_n hx hb dX10_takeName_16 rfl (lv_at hl 0 rfl) ?_
      refine uGet (ci := 10) (C := RX10) (T := TX10) (N := 10) (v := .ref a_K_bytes) B inlX10 hP 0 rfl rfl 0 rfl mfl_X10_9 rfl rfl dX10_takeName_17 ?_
      refine lv_aload_n hx hb dX10_takeName_20 rfl (lv_at hl 0 rfl) ?_
      refine lv_pc (q := 21) rfl ?_
      refine uGet (ci := 10) (C := RX10) (T := TX10) (N := 10) (v := .int (nI y1)) B inlX10 hP 0 rfl rfl 4 rfl mfl_X10_26 rfl rfl dX10_takeName_21 ?_
      refine uIald (i := (nI y1)) (j := y1) B hP 1 rfl (nI_in (by omega) (by omega)) (nI_clamp (by omega)) dX10_takeName_24 ?_
      obtain ⟨a13, ha13, ea13⟩ := uRnat r_K_bytes y1 (by decide)
      simp only [Int32.reduceToInt] at ha13
      refine lv_fixi (y := (nI a13)) ea13 ?_
      refine uSi (As := [.int (nI a13)]) (rest := []) (wr := [(a_K, .inr (10, [.ref a_K_bytes, .ref a_K_keyNames, .int (nI v_K_size), .int (nI v_K_length), .int (nI y1), .int (nI v_K_kind), .int (nI v_K_place), .int (nI v_K_number), .long y2, .int v_K_key])), (a_K_bytes, .inl (K 0, 1000, .inl f_K_bytes)), (a_K_keyNames, .inl (K 2, 13, .inr (.inl f_K_keyNames)))]) [] B hl.1 hP hD hS [] [0, 1, 2] rfl rfl rfl (wX10_isLetter_vc l D K _ a13 (by omega)) wd_X10_isLetter mml_X10_65 rfl rfl ⟨Nat.le_of_ble_eq_true rfl, Nat.le_of_ble_eq_true rfl⟩ (Nat.le_of_ble_eq_true rfl) ⟨Nat.le_of_ble_eq_true rfl, Nat.le_of_ble_eq_true rfl⟩ dX10_takeName_25 (fun r14 u H locs hw hP hD hS => ?_)
      try dsimp only at hw
      have w15 := hw
      have hP : va_P D vwCl [(a_K, .inr (10, [.ref a_K_bytes, .ref a_K_keyNames, .int (nI v_K_size), .int (nI v_K_length), .int (nI y1), .int (nI v_K_kind), .int (nI v_K_place), .int (nI v_K_number), .long y2, .int v_K_key])), (a_K_bytes, .inl (K 0, 1000, .inl f_K_bytes)), (a_K_keyNames, .inl (K 2, 13, .inr (.inl f_K_keyNames)))] H := hP
      have hD := uDPJ hP hD
      rcases w15 with ⟨rfl, w16⟩ | ⟨rfl, w17⟩
      · refine lv_if_eq (tgt := 78) hx hb dX10_takeName_28 (by decide) (fun _ => ?_) (fun h9 => absurd (by decide) h9)
        refine lv_aload_n hx hb dX10_takeName_78 rfl (lv_at hl 0 rfl) ?_
        refine lv_aload_n hx hb dX10_takeName_79 rfl (lv_at hl 0 rfl) ?_
        refine lv_pc (q := 80) rfl ?_
        refine uGet (ci := 10) (C := RX10) (T := TX10) (N := 10) (v := .int (nI y1)) B inlX10 hP 0 rfl rfl 4 rfl mfl_X10_26 rfl rfl dX10_takeName_80 ?_
        refine lv_aload_n hx hb dX10_takeName_83 rfl (lv_at hl 0 rfl) ?_
        refine uGet (ci := 10) (C := RX10) (T := TX10) (N := 10) (v := .int (nI v_K_place)) B inlX10 hP 0 rfl rfl 6 rfl mfl_X10_32 rfl rfl dX10_takeName_84 ?_
        refine lv_isub hx hb dX10_takeName_87 ?_
        refine lv_fixi (y := (nI (y1 - v_K_place))) (by rw [pk_sub (by omega)]) ?_
        refine lv_bipush (v := 8) hx hb dX10_takeName_88 (by decide) ?_
        refine lv_icmp_le (tgt := 97) hx hb dX10_takeName_90 (by decide) (fun c18 => ?_) (fun c18 => ?_)
        · have k_18 : (y1 - v_K_place) ≤ 8 := (nI_leI (a := y1 - v_K_place) (b := 8) (by omega) (by omega)).mp c18
          refine lv_pc (q := 97) rfl ?_
          refine lv_iconst (v := 1) hx hb dX10_takeName_97 (by decide) ?_
          refine uPut (ci := 10) (C := RX10) (T := TX10) (N := 10) (ws' := [(a_K, .inr (10, [.ref a_K_bytes, .ref a_K_keyNames, .int (nI v_K_size), .int (nI v_K_length), .int (nI y1), .int 1, .int (nI v_K_place), .int (nI v_K_number), .long y2, .int v_K_key])), (a_K_bytes, .inl (K 0, 1000, .inl f_K_bytes)), (a_K_keyNames, .inl (K 2, 13, .inr (.inl f_K_keyNames)))]) B inlX10 tyX10_ok nmX10 hP hD hS 0 rfl rfl 5 rfl mfl_X10_29 rfl rfl rfl rfl rfl rfl dX10_takeName_98 (fun H locs hP hD hS => ?_)
          refine lv_aload_n hx hb dX10_takeName_101 rfl (lv_at hl 0 rfl) ?_
          refine uGet (ci := 10) (C := RX10) (T := TX10) (N := 10) (v := .int 1) B inlX10 hP 0 rfl rfl 5 rfl mfl_X10_29 rfl rfl dX10_takeName_102 ?_
          refine lv_iconst (v := 1) hx hb dX10_takeName_105 (by decide) ?_
          refine lv_icmp_ne (tgt := 121) hx hb dX10_takeName_106 (by decide) (fun h9 => absurd (by decide) h9) (fun _ => ?_)
          refine lv_pc (q := 109) rfl ?_
          refine lv_aload_n hx hb dX10_takeName_109 rfl (lv_at hl 0 rfl) ?_
          refine lv_aload_n hx hb dX10_takeName_110 rfl (lv_at hl 0 rfl) ?_
          refine lv_aload_n hx hb dX10_takeName_111 rfl (lv_at hl 0 rfl) ?_
          refine uGet (ci := 10) (C := RX10) (T := TX10) (N := 10) (v := .long y2) B inlX10 hP 0 rfl rfl 8 rfl mfl_X10_38 rfl rfl dX10_takeName_112 ?_
          refine uViJ (As := [.long y2]) (rest := [.ref a_K]) (wr := [(a_K_bytes, .inl (K 0, 1000, .inl f_K_bytes))]) (wX10_keyOf_vc l D K _ a_K v_K_size v_K_length y1 1 v_K_place v_K_number y2 v_K_key a_K_keyNames f_K_keyNames a_K_bytes y2 (by omega) (by omega) (by omega) (by omega) (by omega) (by omega)) B hl.1 hP hD hS [0, 2] [1] rfl rfl rfl wd_X10_keyOf mml_X10_81 rfl rfl rfl rfl ⟨Nat.le_of_ble_eq_true rfl, Nat.le_of_ble_eq_true rfl⟩ (Nat.le_of_ble_eq_true rfl) ⟨Nat.le_of_ble_eq_true rfl, Nat.le_of_ble_eq_true rfl⟩ dX10_takeName_115 (fun r19 u H locs hw hP hD hS => ?_)
          try dsimp only at hw
          have w20 := hw
          have hP : va_P D vwCl [(a_K_bytes, .inl (K 0, 1000, .inl f_K_bytes)), (a_K, .inr (10, [.ref a_K_bytes, .ref a_K_keyNames, .int (nI v_K_size), .int (nI v_K_length), .int (nI y1), .int 1, .int (nI v_K_place), .int (nI v_K_number), .long y2, .int v_K_key])), (a_K_keyNames, .inl (K 2, 13, .inr (.inl f_K_keyNames)))] H := hP
          have hD := uDPJ hP hD
          refine uPut (ci := 10) (C := RX10) (T := TX10) (N := 10) (ws' := [(a_K_bytes, .inl (K 0, 1000, .inl f_K_bytes)), (a_K, .inr (10, [.ref a_K_bytes, .ref a_K_keyNames, .int (nI v_K_size), .int (nI v_K_length), .int (nI y1), .int 1, .int (nI v_K_place), .int (nI v_K_number), .long y2, .int r19])), (a_K_keyNames, .inl (K 2, 13, .inr (.inl f_K_keyNames)))]) B inlX10 tyX10_ok nmX10 hP hD hS 1 rfl rfl 9 rfl mfl_X10_42 rfl rfl rfl rfl rfl rfl dX10_takeName_118 (fun H locs hP hD hS => ?_)
          refine lv_pc (q := 121) rfl ?_
          exact uRv (y1, 1, y2, r19) B ⟨(by (try dsimp only); omega), (by (try dsimp only); omega), (urToE2 (by omega) (by omega) xs_5 (urLtN ea13 (by omega) w16)), (Or.inr ⟨(by first | omega | (dsimp only; omega)), rfl, (urNiE xm_6 (by omega)), w20⟩)⟩ (uSub hP [1, 0, 2] rfl) (hD.sub [1, 0, 2] rfl rfl) hS dX10_takeName_121
        have k_18 : ¬ (y1 - v_K_place) ≤ 8 := fun h9 => c18 ((nI_leI (a := y1 - v_K_place) (b := 8) (by omega) (by omega)).mpr h9)
        refine lv_pc (q := 93) rfl ?_
        refine lv_iconst (v := 5) hx hb dX10_takeName_93 (by decide) ?_
        refine lv_goto (tgt := 98) hx hb dX10_takeName_94 (by decide) ?_
        refine uPut (ci := 10) (C := RX10) (T := TX10) (N := 10) (ws' := [(a_K, .inr (10, [.ref a_K_bytes, .ref a_K_keyNames, .int (nI v_K_size), .int (nI v_K_length), .int (nI y1), .int 5, .int (nI v_K_place), .int (nI v_K_number), .long y2, .int v_K_key])), (a_K_bytes, .inl (K 0, 1000, .inl f_K_bytes)), (a_K_keyNames, .inl (K 2, 13, .inr (.inl f_K_keyNames)))]) B inlX10 tyX10_ok nmX10 hP hD hS 0 rfl rfl 5 rfl mfl_X10_29 rfl rfl rfl rfl rfl rfl dX10_takeName_98 (fun H locs hP hD hS => ?_)
        refine lv_aload_n hx hb dX10_takeName_101 rfl (lv_at hl 0 rfl) ?_
        refine uGet (ci := 10) (C := RX10) (T := TX10) (N := 10) (v := .int 5) B inlX10 hP 0 rfl rfl 5 rfl mfl_X10_29 rfl rfl dX10_takeName_102 ?_
        refine lv_iconst (v := 1) hx hb dX10_takeName_105 (by decide) ?_
        refine lv_pc (q := 106) rfl ?_
        refine lv_icmp_ne (tgt := 121) hx hb dX10_takeName_106 (by decide) (fun _ => ?_) (fun h9 => absurd h9 (by decide))
        exact uRv (y1, 5, y2, v_K_key) B ⟨(by (try dsimp only); omega), (by (try dsimp only); omega), (urToE2 (by omega) (by omega) xs_5 (urLtN ea13 (by omega) w16)), (Or.inl ⟨(by first | omega | (dsimp only; omega)), rfl, rfl⟩)⟩ (uSub hP [0, 1, 2] rfl) (hD.sub [0, 1, 2] rfl rfl) hS dX10_takeName_121
      refine lv_if_eq (tgt := 78) hx hb dX10_takeName_28 (by decide) (fun h9 => absurd h9 (by decide)) (fun _ => ?_)
      refine lv_aload_n hx hb dX10_takeName_31 rfl (lv_at hl 0 rfl) ?_
      refine uGet (ci := 10) (C := RX10) (T := TX10) (N := 10) (v := .int (nI y1)) B inlX10 hP 0 rfl rfl 4 rfl mfl_X10_26 rfl rfl dX10_takeName_32 ?_
      refine lv_pc (q := 35) rfl ?_
      refine lv_aload_n hx hb dX10_takeName_35 rfl (lv_at hl 0 rfl) ?_
      refine uGet (ci := 10) (C := RX10) (T := TX10) (N := 10) (v := .int (nI v_K_place)) B inlX10 hP 0 rfl rfl 6 rfl mfl_X10_32 rfl rfl dX10_takeName_36 ?_
      refine lv_isub hx hb dX10_takeName_39 ?_
      refine lv_fixi (y := (nI (y1 - v_K_place))) (by rw [pk_sub (by omega)]) ?_
      refine lv_bipush (v := 8) hx hb dX10_takeName_40 (by decide) ?_
      refine lv_icmp_ge (tgt := 65) hx hb dX10_takeName_42 (by decide) (fun c21 => ?_) (fun c21 => ?_)
      · have k_21 : 8 ≤ (y1 - v_K_place) := (nI_leI (a := 8) (b := y1 - v_K_place) (by omega) (by omega)).mp c21
        refine lv_aload_n hx hb dX10_takeName_65 rfl (lv_at hl 0 rfl) ?_
        refine lv_pc (q := 66) rfl ?_
        refine lv_dup hx hb dX10_takeName_66 rfl ?_
        refine uGet (ci := 10) (C := RX10) (T := TX10) (N := 10) (v := .int (nI y1)) B inlX10 hP 0 rfl rfl 4 rfl mfl_X10_26 rfl rfl dX10_takeName_67 ?_
        refine lv_iconst (v := 1) hx hb dX10_takeName_70 (by decide) ?_
        refine lv_iadd hx hb dX10_takeName_71 ?_
        refine lv_fixi (y := (nI (y1 + 1))) (by rw [show (1 : Int32) = nI 1 from rfl, nI_add]) ?_
        refine uPut (ci := 10) (C := RX10) (T := TX10) (N := 10) (ws' := [(a_K, .inr (10, [.ref a_K_bytes, .ref a_K_keyNames, .int (nI v_K_size), .int (nI v_K_length), .int (nI (y1 + 1)), .int (nI v_K_kind), .int (nI v_K_place), .int (nI v_K_number), .long y2, .int v_K_key])), (a_K_bytes, .inl (K 0, 1000, .inl f_K_bytes)), (a_K_keyNames, .inl (K 2, 13, .inr (.inl f_K_keyNames)))]) B inlX10 tyX10_ok nmX10 hP hD hS 0 rfl rfl 4 rfl mfl_X10_26 rfl rfl rfl rfl rfl rfl dX10_takeName_72 (fun H locs hP hD hS => ?_)
        refine lv_goto (tgt := 5) hx hb dX10_takeName_75 (by decide) ?_
        refine lv_pc (q := 5) rfl ?_
        refine W.widen (k := 0) (n := 0) (Nat.le_of_ble_eq_true rfl) (Nat.le_of_ble_eq_true rfl) ?_
        exact ih5 (y1 + 1) y2 (by omega) (by omega) (by omega) (urSpS xs_5 (urLtY ea13 w17)) (urNiK xm_6 (by omega)) (by omega) _ _ _ (uSub hP [0, 1, 2] rfl) (hD.sub [0, 1, 2] rfl rfl) hS (lv_sub hl [0] rfl)
      have k_21 : ¬ 8 ≤ (y1 - v_K_place) := fun h9 => c21 ((nI_leI (a := 8) (b := y1 - v_K_place) (by omega) (by omega)).mpr h9)
      refine lv_aload_n hx hb dX10_takeName_45 rfl (lv_at hl 0 rfl) ?_
      refine lv_pc (q := 46) rfl ?_
      refine lv_aload_n hx hb dX10_takeName_46 rfl (lv_at hl 0 rfl) ?_
      refine uGet (ci := 10) (C := RX10) (T := TX10) (N := 10) (v := .long y2) B inlX10 hP 0 rfl rfl 8 rfl mfl_X10_38 rfl rfl dX10_takeName_47 ?_
      refine lv_aload_n hx hb dX10_takeName_50 rfl (lv_at hl 0 rfl) ?_
      refine uGet (ci := 10) (C := RX10) (T := TX10) (N := 10) (v := .ref a_K_bytes) B inlX10 hP 0 rfl rfl 0 rfl mfl_X10_9 rfl rfl dX10_takeName_51 ?_
      refine lv_aload_n hx hb dX10_takeName_54 rfl (lv_at hl 0 rfl) ?_
      refine uGet (ci := 10) (C := RX10) (T := TX10) (N := 10) (v := .int (nI y1)) B inlX10 hP 0 rfl rfl 4 rfl mfl_X10_26 rfl rfl dX10_takeName_55 ?_
      refine lv_pc (q := 58) rfl ?_
      refine uIald (i := (nI y1)) (j := y1) B hP 1 rfl (nI_in (by omega) (by omega)) (nI_clamp (by omega)) dX10_takeName_58 ?_
      refine lv_fixi (y := (nI a13)) ea13 ?_
      refine uSl (As := [.long y2, .int (nI a13)]) (rest := [.ref a_K]) (wr := [(a_K, .inr (10, [.ref a_K_bytes, .ref a_K_keyNames, .int (nI v_K_size), .int (nI v_K_length), .int (nI y1), .int (nI v_K_kind), .int (nI v_K_place), .int (nI v_K_number), .long y2, .int v_K_key])), (a_K_bytes, .inl (K 0, 1000, .inl f_K_bytes)), (a_K_keyNames, .inl (K 2, 13, .inr (.inl f_K_keyNames)))]) [] B hl.1 hP hD hS [] [0, 1, 2] rfl rfl rfl (wX10_withLetter_vc l D K _ y2 a13 (by omega) (by omega)) wd_X10_withLetter mml_X10_56 rfl rfl ⟨Nat.le_of_ble_eq_true rfl, Nat.le_of_ble_eq_true rfl⟩ (Nat.le_of_ble_eq_true rfl) ⟨Nat.le_of_ble_eq_true rfl, Nat.le_of_ble_eq_true rfl⟩ dX10_takeName_59 (fun r22 u H locs hw hP hD hS => ?_)
      try dsimp only at hw
      have w23 := hw
      have hP : va_P D vwCl [(a_K, .inr (10, [.ref a_K_bytes, .ref a_K_keyNames, .int (nI v_K_size), .int (nI v_K_length), .int (nI y1), .int (nI v_K_kind), .int (nI v_K_place), .int (nI v_K_number), .long y2, .int v_K_key])), (a_K_bytes, .inl (K 0, 1000, .inl f_K_bytes)), (a_K_keyNames, .inl (K 2, 13, .inr (.inl f_K_keyNames)))] H := hP
      have hD := uDPJ hP hD
      refine lv_fixl (y := (y2 * 32 + (nI (a13 - 97 + 1)).toInt64)) w23 ?_
      refine uPut (ci := 10) (C := RX10) (T := TX10) (N := 10) (ws' := [(a_K, .inr (10, [.ref a_K_bytes, .ref a_K_keyNames, .int (nI v_K_size), .int (nI v_K_length), .int (nI y1), .int (nI v_K_kind), .int (nI v_K_place), .int (nI v_K_number), .long (y2 * 32 + (nI (a13 - 97 + 1)).toInt64), .int v_K_key])), (a_K_bytes, .inl (K 0, 1000, .inl f_K_bytes)), (a_K_keyNames, .inl (K 2, 13, .inr (.inl f_K_keyNames)))]) B inlX10 tyX10_ok nmX10 hP hD hS 0 rfl rfl 8 rfl mfl_X10_38 rfl rfl rfl rfl rfl rfl dX10_takeName_62 (fun H locs hP hD hS => ?_)
      refine lv_aload_n hx hb dX10_takeName_65 rfl (lv_at hl 0 rfl) ?_
      refine lv_dup hx hb dX10_takeName_66 rfl ?_
      refine uGet (ci := 10) (C := RX10) (T := TX10) (N := 10) (v := .int (nI y1)) B inlX10 hP 0 rfl rfl 4 rfl mfl_X10_26 rfl rfl dX10_takeName_67 ?_
      refine lv_pc (q := 70) rfl ?_
      refine lv_iconst (v := 1) hx hb dX10_takeName_70 (by decide) ?_
      refine lv_iadd hx hb dX10_takeName_71 ?_
      refine lv_fixi (y := (nI (y1 + 1))) (by rw [show (1 : Int32) = nI 1 from rfl, nI_add]) ?_
      refine uPut (ci := 10) (C := RX10) (T := TX10) (N := 10) (ws' := [(a_K, .inr (10, [.ref a_K_bytes, .ref a_K_keyNames, .int (nI v_K_size), .int (nI v_K_length), .int (nI (y1 + 1)), .int (nI v_K_kind), .int (nI v_K_place), .int (nI v_K_number), .long (y2 * 32 + (nI (a13 - 97 + 1)).toInt64), .int v_K_key])), (a_K_bytes, .inl (K 0, 1000, .inl f_K_bytes)), (a_K_keyNames, .inl (K 2, 13, .inr (.inl f_K_keyNames)))]) B inlX10 tyX10_ok nmX10 hP hD hS 0 rfl rfl 4 rfl mfl_X10_26 rfl rfl rfl rfl rfl rfl dX10_takeName_72 (fun H locs hP hD hS => ?_)
      refine lv_goto (tgt := 5) hx hb dX10_takeName_75 (by decide) ?_
      refine lv_pc (q := 5) rfl ?_
      refine W.widen (k := 0) (n := 0) (Nat.le_of_ble_eq_true rfl) (Nat.le_of_ble_eq_true rfl) ?_
      exact ih5 (y1 + 1) (y2 * 32 + (nI (a13 - 97 + 1)).toInt64) (by omega) (by omega) (by omega) (urSpS xs_5 (urLtY ea13 w17)) (urNiC xm_6 (by omega) (by omega) ea13 w17) (by omega) _ _ _ (uSub hP [0, 1, 2] rfl) (hD.sub [0, 1, 2] rfl rfl) hS (lv_sub hl [0] rfl)
  refine lv_pc (q := 5) rfl ?_
  refine W.widen (k := 0) (n := 0) (Nat.le_of_ble_eq_true rfl) (Nat.le_of_ble_eq_true rfl) ?_
  exact L8 ((v_K_length - v_K_next) + 1) v_K_next 0 (by omega) (by omega) (by omega) urSp0 urNi0 (Nat.lt_succ_self _) _ _ _ hP hD hS hl
def qwX10_takeNumber_vc (a_K : Nat) (v_K_size : Nat) (v_K_length : Nat) (v_K_next : Nat) (v_K_kind : Nat) (v_K_place : Nat) (v_K_number : Nat) (v_K_name : Int64) (v_K_key : Int32) (a_K_bytes : Nat) (f_K_bytes : Nat → Int32) (a_K_keyNames : Nat) : (Nat × Nat × Nat) → Prop := (fun (u : Nat × Nat × Nat) => (u.1 ≤ 1000) ∧ (u.2.1 ≤ 5) ∧ (u.2.2 ≤ 1000) ∧ (u.1 = urTo (urDg f_K_bytes) v_K_length v_K_next) ∧ (u.2.2 = urNb f_K_bytes v_K_next (u.1 - v_K_next)) ∧ (u.2.1 = 2))
def vwX10_takeNumber_vc (K : Nat → ClassId) (a_K : Nat) (v_K_size : Nat) (v_K_length : Nat) (v_K_next : Nat) (v_K_kind : Nat) (v_K_place : Nat) (v_K_number : Nat) (v_K_name : Int64) (v_K_key : Int32) (a_K_bytes : Nat) (f_K_bytes : Nat → Int32) (a_K_keyNames : Nat) : (Nat × Nat × Nat) → va_W := (fun (u : Nat × Nat × Nat) => [(a_K, .inr (10, [.ref a_K_bytes, .ref a_K_keyNames, .int (nI v_K_size), .int (nI v_K_length), .int (nI ((u.1))), .int (nI ((u.2.1))), .int (nI v_K_place), .int (nI ((u.2.2))), .long v_K_name, .int v_K_key])), (a_K_bytes, .inl (K 0, 1000, .inl f_K_bytes))])
set_option maxHeartbeats 4000000 in
set_option maxRecDepth 100000 in
theorem wX10_takeNumber_vc (l : Launch) (D : va_G) (K : Nat → ClassId) (sz : Nat) (a_K : Nat) (v_K_size : Nat) (v_K_length : Nat) (v_K_next : Nat) (v_K_kind : Nat) (v_K_place : Nat) (v_K_number : Nat) (v_K_name : Int64) (v_K_key : Int32) (a_K_bytes : Nat) (f_K_bytes : Nat → Int32) (a_K_keyNames : Nat) (hv_K_size : v_K_size ≤ 1000) (hv_K_length : v_K_length ≤ 1000) (hv_K_next : v_K_next ≤ 1000) (hv_K_kind : v_K_kind ≤ 5) (hv_K_place : v_K_place ≤ 1000) (hv_K_number : v_K_number ≤ 1000) (r_K_bytes : uRg f_K_bytes 0 255) (hpre0 : v_K_next ≤ v_K_length) : uMv l yX10_takeNumber cX10_takeNumber 1 { frames := 1, cells := 0, slots := 0, locals := 20 } [.ref a_K] D K [(a_K, .inr (10, [.ref a_K_bytes, .ref a_K_keyNames, .int (nI v_K_size), .int (nI v_K_length), .int (nI v_K_next), .int (nI v_K_kind), .int (nI v_K_place), .int (nI v_K_number), .long v_K_name, .int v_K_key])), (a_K_bytes, .inl (K 0, 1000, .inl f_K_bytes))] sz (qwX10_takeNumber_vc a_K v_K_size v_K_length v_K_next v_K_kind v_K_place v_K_number v_K_name v_K_key a_K_bytes f_K_bytes a_K_keyNames) (vwX10_takeNumber_vc K a_K v_K_size v_K_length v_K_next v_K_kind v_K_place v_K_number v_K_name v_K_key a_K_bytes f_K_bytes a_K_keyNames) := by
  refine uMet (Qc := uQv D (qwX10_takeNumber_vc a_K v_K_size v_K_length v_K_next v_K_kind v_K_place v_K_number v_K_name v_K_key a_K_bytes f_K_bytes a_K_keyNames) (vwX10_takeNumber_vc K a_K v_K_size v_K_length v_K_next v_K_kind v_K_place v_K_number v_K_name v_K_key a_K_bytes f_K_bytes a_K_keyNames)) (ret := none) (by decide) (Nat.le_of_ble_eq_true rfl) ?_
  intro p e s m below meth c A ls hAe hsz B hP hD hS hl
  have hx := B.1
  have hb := B.2.1
  have hl : lv_has ls 1 [(0, .ref a_K)] := hl
  refine lv_aload_n hx hb dX10_takeNumber_0 rfl (lv_at hl 0 rfl) ?_
  refine lv_iconst (v := 0) hx hb dX10_takeNumber_1 (by decide) ?_
  refine uPut (ci := 10) (C := RX10) (T := TX10) (N := 10) (ws' := [(a_K, .inr (10, [.ref a_K_bytes, .ref a_K_keyNames, .int (nI v_K_size), .int (nI v_K_length), .int (nI v_K_next), .int (nI v_K_kind), .int (nI v_K_place), .int 0, .long v_K_name, .int v_K_key])), (a_K_bytes, .inl (K 0, 1000, .inl f_K_bytes))]) B inlX10 tyX10_ok nmX10 hP hD hS 0 rfl rfl 7 rfl mfl_X10_35 rfl rfl rfl rfl rfl rfl dX10_takeNumber_2 (fun H locs hP hD hS => ?_)
  have L8 : ∀ (n9 : Nat) (y1 : Nat) (y2 : Nat), (y1 ≤ 1000) → (y2 ≤ 1000) → (v_K_next ≤ y1) → (y1 ≤ v_K_length ∨ y1 = v_K_next) → (urSp (urDg f_K_bytes) v_K_next y1) → (y2 = urNb f_K_bytes v_K_next (y1 - v_K_next)) → v_K_length - y1 < n9 → ∀ (H : Heap) (locs : List Loc) (ls : Array Slot), va_P D vwCl [(a_K, .inr (10, [.ref a_K_bytes, .ref a_K_keyNames, .int (nI v_K_size), .int (nI v_K_length), .int (nI y1), .int (nI v_K_kind), .int (nI v_K_place), .int (nI y2), .long v_K_name, .int v_K_key])), (a_K_bytes, .inl (K 0, 1000, .inl f_K_bytes))] H → va_D A [(a_K, .inr (10, [.ref a_K_bytes, .ref a_K_keyNames, .int (nI v_K_size), .int (nI v_K_length), .int (nI y1), .int (nI v_K_kind), .int (nI v_K_place), .int (nI y2), .long v_K_name, .int v_K_key])), (a_K_bytes, .inl (K 0, 1000, .inl f_K_bytes))] → va_S A s.heap H locs → lv_has ls 1 [(0, .ref a_K)] → W p l e { frames := 1, cells := 0, slots := 0, locals := 20 } s m ([.ref a_K] : List Value).toArray below meth c H locs 0 0 (MQ below (uQv D (qwX10_takeNumber_vc a_K v_K_size v_K_length v_K_next v_K_kind v_K_place v_K_number v_K_name v_K_key a_K_bytes f_K_bytes a_K_keyNames) (vwX10_takeNumber_vc K a_K v_K_size v_K_length v_K_next v_K_kind v_K_place v_K_number v_K_name v_K_key a_K_bytes f_K_bytes a_K_keyNames) A) ([.ref a_K] : List Value).toArray s 0 0 A) (F0 m 5 ls []) := by
    intro n9
    induction n9 with
    | zero => intros; exact absurd ‹_ < 0› (Nat.not_lt_zero _)
    | succ n5_ ih5 =>
      intro y1 y2 hy1 hy2 xa_3 xb_4 xs_5 xv_6 hm5 H locs ls hP hD hS hl
      refine lv_aload_n hx hb dX10_takeNumber_5 rfl (lv_at hl 0 rfl) ?_
      refine uGet (ci := 10) (C := RX10) (T := TX10) (N := 10) (v := .int (nI y1)) B inlX10 hP 0 rfl rfl 4 rfl mfl_X10_26 rfl rfl dX10_takeNumber_6 ?_
      refine lv_pc (q := 9) rfl ?_
      refine lv_aload_n hx hb dX10_takeNumber_9 rfl (lv_at hl 0 rfl) ?_
      refine uGet (ci := 10) (C := RX10) (T := TX10) (N := 10) (v := .int (nI v_K_length)) B inlX10 hP 0 rfl rfl 3 rfl mfl_X10_23 rfl rfl dX10_takeNumber_10 ?_
      refine lv_icmp_ge (tgt := 74) hx hb dX10_takeNumber_13 (by decide) (fun c9 => ?_) (fun c9 => ?_)
      · have k_9 : v_K_length ≤ y1 := (nI_leI (a := v_K_length) (b := y1) (by omega) (by omega)).mp c9
        refine lv_aload_n hx hb dX10_takeNumber_74 rfl (lv_at hl 0 rfl) ?_
        refine lv_iconst (v := 2) hx hb dX10_takeNumber_75 (by decide) ?_
        refine uPut (ci := 10) (C := RX10) (T := TX10) (N := 10) (ws' := [(a_K, .inr (10, [.ref a_K_bytes, .ref a_K_keyNames, .int (nI v_K_size), .int (nI v_K_length), .int (nI y1), .int 2, .int (nI v_K_place), .int (nI y2), .long v_K_name, .int v_K_key])), (a_K_bytes, .inl (K 0, 1000, .inl f_K_bytes))]) B inlX10 tyX10_ok nmX10 hP hD hS 0 rfl rfl 5 rfl mfl_X10_29 rfl rfl rfl rfl rfl rfl dX10_takeNumber_76 (fun H locs hP hD hS => ?_)
        refine lv_pc (q := 79) rfl ?_
        exact uRv (y1, 2, y2) B ⟨(by (try dsimp only); omega), (by (try dsimp only); omega), (by (try dsimp only); omega), (urToE1 (by omega) (by omega) xs_5 (by omega)), xv_6, rfl⟩ (uSub hP [0, 1] rfl) (hD.sub [0, 1] rfl rfl) hS dX10_takeNumber_79
      have k_9 : ¬ v_K_length ≤ y1 := fun h9 => c9 ((nI_leI (a := v_K_length) (b := y1) (by omega) (by omega)).mpr h9)
      refine lv_aload_n hx hb dX10_takeNumber_16 rfl (lv_at hl 0 rfl) ?_
      refine uGet (ci := 10) (C := RX10) (T := TX10) (N := 10) (v := .ref a_K_bytes) B inlX10 hP 0 rfl rfl 0 rfl mfl_X10_9 rfl rfl dX10_takeNumber_17 ?_
      refine lv_aload_n hx hb dX10_takeNumber_20 rfl (lv_at hl 0 rfl) ?_
      refine lv_pc (q := 21) rfl ?_
      refine uGet (ci := 10) (C := RX10) (T := TX10) (N := 10) (v := .int (nI y1)) B inlX10 hP 0 rfl rfl 4 rfl mfl_X10_26 rfl rfl dX10_takeNumber_21 ?_
      refine uIald (i := (nI y1)) (j := y1) B hP 1 rfl (nI_in (by omega) (by omega)) (nI_clamp (by omega)) dX10_takeNumber_24 ?_
      obtain ⟨a10, ha10, ea10⟩ := uRnat r_K_bytes y1 (by decide)
      simp only [Int32.reduceToInt] at ha10
      refine lv_fixi (y := (nI a10)) ea10 ?_
      refine uSi (As := [.int (nI a10)]) (rest := []) (wr := [(a_K, .inr (10, [.ref a_K_bytes, .ref a_K_keyNames, .int (nI v_K_size), .int (nI v_K_length), .int (nI y1), .int (nI v_K_kind), .int (nI v_K_place), .int (nI y2), .long v_K_name, .int v_K_key])), (a_K_bytes, .inl (K 0, 1000, .inl f_K_bytes))]) [] B hl.1 hP hD hS [] [0, 1] rfl rfl rfl (wX10_isDigit_vc l D K _ a10 (by omega)) wd_X10_isDigit mml_X10_72 rfl rfl ⟨Nat.le_of_ble_eq_true rfl, Nat.le_of_ble_eq_true rfl⟩ (Nat.le_of_ble_eq_true rfl) ⟨Nat.le_of_ble_eq_true rfl, Nat.le_of_ble_eq_true rfl⟩ dX10_takeNumber_25 (fun r11 u H locs hw hP hD hS => ?_)
      try dsimp only at hw
      have w12 := hw
      have hP : va_P D vwCl [(a_K, .inr (10, [.ref a_K_bytes, .ref a_K_keyNames, .int (nI v_K_size), .int (nI v_K_length), .int (nI y1), .int (nI v_K_kind), .int (nI v_K_place), .int (nI y2), .long v_K_name, .int v_K_key])), (a_K_bytes, .inl (K 0, 1000, .inl f_K_bytes))] H := hP
      have hD := uDPJ hP hD
      rcases w12 with ⟨rfl, w13⟩ | ⟨rfl, w14⟩
      · refine lv_if_eq (tgt := 74) hx hb dX10_takeNumber_28 (by decide) (fun _ => ?_) (fun h9 => absurd (by decide) h9)
        refine lv_aload_n hx hb dX10_takeNumber_74 rfl (lv_at hl 0 rfl) ?_
        refine lv_iconst (v := 2) hx hb dX10_takeNumber_75 (by decide) ?_
        refine lv_pc (q := 76) rfl ?_
        refine uPut (ci := 10) (C := RX10) (T := TX10) (N := 10) (ws' := [(a_K, .inr (10, [.ref a_K_bytes, .ref a_K_keyNames, .int (nI v_K_size), .int (nI v_K_length), .int (nI y1), .int 2, .int (nI v_K_place), .int (nI y2), .long v_K_name, .int v_K_key])), (a_K_bytes, .inl (K 0, 1000, .inl f_K_bytes))]) B inlX10 tyX10_ok nmX10 hP hD hS 0 rfl rfl 5 rfl mfl_X10_29 rfl rfl rfl rfl rfl rfl dX10_takeNumber_76 (fun H locs hP hD hS => ?_)
        exact uRv (y1, 2, y2) B ⟨(by (try dsimp only); omega), (by (try dsimp only); omega), (by (try dsimp only); omega), (urToE2 (by omega) (by omega) xs_5 (urDgN ea10 (by omega) w13)), xv_6, rfl⟩ (uSub hP [0, 1] rfl) (hD.sub [0, 1] rfl rfl) hS dX10_takeNumber_79
      refine lv_if_eq (tgt := 74) hx hb dX10_takeNumber_28 (by decide) (fun h9 => absurd h9 (by decide)) (fun _ => ?_)
      refine lv_aload_n hx hb dX10_takeNumber_31 rfl (lv_at hl 0 rfl) ?_
      refine lv_aload_n hx hb dX10_takeNumber_32 rfl (lv_at hl 0 rfl) ?_
      refine lv_pc (q := 33) rfl ?_
      refine uGet (ci := 10) (C := RX10) (T := TX10) (N := 10) (v := .int (nI y2)) B inlX10 hP 0 rfl rfl 7 rfl mfl_X10_35 rfl rfl dX10_takeNumber_33 ?_
      refine lv_bipush (v := 10) hx hb dX10_takeNumber_36 (by decide) ?_
      refine lv_imul hx hb dX10_takeNumber_38 ?_
      refine lv_fixi (y := (nI (y2 * 10))) (by rw [show (10 : Int32) = nI 10 from rfl, pk_mul]) ?_
      refine lv_aload_n hx hb dX10_takeNumber_39 rfl (lv_at hl 0 rfl) ?_
      refine uGet (ci := 10) (C := RX10) (T := TX10) (N := 10) (v := .ref a_K_bytes) B inlX10 hP 0 rfl rfl 0 rfl mfl_X10_9 rfl rfl dX10_takeNumber_40 ?_
      refine lv_aload_n hx hb dX10_takeNumber_43 rfl (lv_at hl 0 rfl) ?_
      refine lv_pc (q := 44) rfl ?_
      refine uGet (ci := 10) (C := RX10) (T := TX10) (N := 10) (v := .int (nI y1)) B inlX10 hP 0 rfl rfl 4 rfl mfl_X10_26 rfl rfl dX10_takeNumber_44 ?_
      refine uIald (i := (nI y1)) (j := y1) B hP 1 rfl (nI_in (by omega) (by omega)) (nI_clamp (by omega)) dX10_takeNumber_47 ?_
      refine lv_fixi (y := (nI a10)) ea10 ?_
      refine lv_iadd hx hb dX10_takeNumber_48 ?_
      refine lv_fixi (y := (nI ((y2 * 10) + a10))) (by rw [nI_add]) ?_
      refine lv_bipush (v := 48) hx hb dX10_takeNumber_49 (by decide) ?_
      refine lv_isub hx hb dX10_takeNumber_51 ?_
      refine lv_fixi (y := (nI (((y2 * 10) + a10) - 48))) (by rw [show (48 : Int32) = nI 48 from rfl, pk_sub (by omega)]) ?_
      refine lv_sipush (v := 1000) hx hb dX10_takeNumber_52 (by decide) ?_
      refine lv_pc (q := 55) rfl ?_
      refine uMin B hl.1 mml_X10_85 (Nat.le_of_ble_eq_true rfl) (Nat.le_of_ble_eq_true rfl) (Nat.le_of_ble_eq_true rfl) (Nat.le_of_ble_eq_true rfl) dX10_takeNumber_55 ?_
      obtain ⟨a15, ha15, ea15⟩ := uMinN (a := ((y2 * 10) + a10) - 48) (b := 1000) (by omega) (by omega)
      refine lv_fixi (y := (nI a15)) ea15 ?_
      refine uPut (ci := 10) (C := RX10) (T := TX10) (N := 10) (ws' := [(a_K, .inr (10, [.ref a_K_bytes, .ref a_K_keyNames, .int (nI v_K_size), .int (nI v_K_length), .int (nI y1), .int (nI v_K_kind), .int (nI v_K_place), .int (nI a15), .long v_K_name, .int v_K_key])), (a_K_bytes, .inl (K 0, 1000, .inl f_K_bytes))]) B inlX10 tyX10_ok nmX10 hP hD hS 0 rfl rfl 7 rfl mfl_X10_35 rfl rfl rfl rfl rfl rfl dX10_takeNumber_58 (fun H locs hP hD hS => ?_)
      refine lv_aload_n hx hb dX10_takeNumber_61 rfl (lv_at hl 0 rfl) ?_
      refine lv_dup hx hb dX10_takeNumber_62 rfl ?_
      refine uGet (ci := 10) (C := RX10) (T := TX10) (N := 10) (v := .int (nI y1)) B inlX10 hP 0 rfl rfl 4 rfl mfl_X10_26 rfl rfl dX10_takeNumber_63 ?_
      refine lv_iconst (v := 1) hx hb dX10_takeNumber_66 (by decide) ?_
      refine lv_pc (q := 67) rfl ?_
      refine lv_iadd hx hb dX10_takeNumber_67 ?_
      refine lv_fixi (y := (nI (y1 + 1))) (by rw [show (1 : Int32) = nI 1 from rfl, nI_add]) ?_
      refine uPut (ci := 10) (C := RX10) (T := TX10) (N := 10) (ws' := [(a_K, .inr (10, [.ref a_K_bytes, .ref a_K_keyNames, .int (nI v_K_size), .int (nI v_K_length), .int (nI (y1 + 1)), .int (nI v_K_kind), .int (nI v_K_place), .int (nI a15), .long v_K_name, .int v_K_key])), (a_K_bytes, .inl (K 0, 1000, .inl f_K_bytes))]) B inlX10 tyX10_ok nmX10 hP hD hS 0 rfl rfl 4 rfl mfl_X10_26 rfl rfl rfl rfl rfl rfl dX10_takeNumber_68 (fun H locs hP hD hS => ?_)
      refine lv_goto (tgt := 5) hx hb dX10_takeNumber_71 (by decide) ?_
      refine lv_pc (q := 5) rfl ?_
      refine W.widen (k := 0) (n := 0) (Nat.le_of_ble_eq_true rfl) (Nat.le_of_ble_eq_true rfl) ?_
      exact ih5 (y1 + 1) a15 (by omega) (by omega) (by omega) (by omega) (urSpS xs_5 (urDgY ea10 w14)) (urNbS xv_6 (by omega) ea10 (by omega) (by omega) (by omega)) (by omega) _ _ _ (uSub hP [0, 1] rfl) (hD.sub [0, 1] rfl rfl) hS (lv_sub hl [0] rfl)
  refine lv_pc (q := 5) rfl ?_
  refine W.widen (k := 0) (n := 0) (Nat.le_of_ble_eq_true rfl) (Nat.le_of_ble_eq_true rfl) ?_
  exact L8 ((v_K_length - v_K_next) + 1) v_K_next 0 (by omega) (by omega) (by omega) (by omega) urSp0 (by rw [Nat.sub_self]; rfl) (Nat.lt_succ_self _) _ _ _ hP hD hS hl
def qwX10_takeMark_vc (a_K : Nat) (v_K_size : Nat) (v_K_length : Nat) (v_K_next : Nat) (v_K_kind : Nat) (v_K_place : Nat) (v_K_number : Nat) (v_K_name : Int64) (v_K_key : Int32) (a_K_bytes : Nat) (f_K_bytes : Nat → Int32) (a_K_keyNames : Nat) : (Nat × Nat) → Prop := (fun (u : Nat × Nat) => (u.1 ≤ 1000) ∧ (u.2 ≤ 5) ∧ (u.1 = v_K_next + 1) ∧ (urMq (f_K_bytes v_K_next) u.2))
def vwX10_takeMark_vc (K : Nat → ClassId) (a_K : Nat) (v_K_size : Nat) (v_K_length : Nat) (v_K_next : Nat) (v_K_kind : Nat) (v_K_place : Nat) (v_K_number : Nat) (v_K_name : Int64) (v_K_key : Int32) (a_K_bytes : Nat) (f_K_bytes : Nat → Int32) (a_K_keyNames : Nat) : (Nat × Nat) → va_W := (fun (u : Nat × Nat) => [(a_K, .inr (10, [.ref a_K_bytes, .ref a_K_keyNames, .int (nI v_K_size), .int (nI v_K_length), .int (nI ((u.1))), .int (nI ((u.2))), .int (nI v_K_place), .int (nI v_K_number), .long v_K_name, .int v_K_key])), (a_K_bytes, .inl (K 0, 1000, .inl f_K_bytes))])
set_option maxHeartbeats 4000000 in
set_option maxRecDepth 100000 in
theorem wX10_takeMark_vc (l : Launch) (D : va_G) (K : Nat → ClassId) (sz : Nat) (a_K : Nat) (v_K_size : Nat) (v_K_length : Nat) (v_K_next : Nat) (v_K_kind : Nat) (v_K_place : Nat) (v_K_number : Nat) (v_K_name : Int64) (v_K_key : Int32) (a_K_bytes : Nat) (f_K_bytes : Nat → Int32) (a_K_keyNames : Nat) (hv_K_size : v_K_size ≤ 1000) (hv_K_length : v_K_length ≤ 1000) (hv_K_next : v_K_next ≤ 1000) (hv_K_kind : v_K_kind ≤ 5) (hv_K_place : v_K_place ≤ 1000) (hv_K_number : v_K_number ≤ 1000) (r_K_bytes : uRg f_K_bytes 0 255) (hpre0 : v_K_next < v_K_length) : uMv l yX10_takeMark cX10_takeMark 2 { frames := 0, cells := 0, slots := 0, locals := 0 } [.ref a_K] D K [(a_K, .inr (10, [.ref a_K_bytes, .ref a_K_keyNames, .int (nI v_K_size), .int (nI v_K_length), .int (nI v_K_next), .int (nI v_K_kind), .int (nI v_K_place), .int (nI v_K_number), .long v_K_name, .int v_K_key])), (a_K_bytes, .inl (K 0, 1000, .inl f_K_bytes))] sz (qwX10_takeMark_vc a_K v_K_size v_K_length v_K_next v_K_kind v_K_place v_K_number v_K_name v_K_key a_K_bytes f_K_bytes a_K_keyNames) (vwX10_takeMark_vc K a_K v_K_size v_K_length v_K_next v_K_kind v_K_place v_K_number v_K_name v_K_key a_K_bytes f_K_bytes a_K_keyNames) := by
  refine uMet (Qc := uQv D (qwX10_takeMark_vc a_K v_K_size v_K_length v_K_next v_K_kind v_K_place v_K_number v_K_name v_K_key a_K_bytes f_K_bytes a_K_keyNames) (vwX10_takeMark_vc K a_K v_K_size v_K_length v_K_next v_K_kind v_K_place v_K_number v_K_name v_K_key a_K_bytes f_K_bytes a_K_keyNames)) (ret := none) (by decide) (Nat.le_of_ble_eq_true rfl) ?_
  intro p e s m below meth c A ls hAe hsz B hP hD hS hl
  have hx := B.1
  have hb := B.2.1
  have hl : lv_has ls 2 [(0, .ref a_K)] := hl
  refine lv_aload_n hx hb dX10_takeMark_0 rfl (lv_at hl 0 rfl) ?_
  refine uGet (ci := 10) (C := RX10) (T := TX10) (N := 10) (v := .ref a_K_bytes) B inlX10 hP 0 rfl rfl 0 rfl mfl_X10_9 rfl rfl dX10_takeMark_1 ?_
  refine lv_aload_n hx hb dX10_takeMark_4 rfl (lv_at hl 0 rfl) ?_
  refine uGet (ci := 10) (C := RX10) (T := TX10) (N := 10) (v := .int (nI v_K_next)) B inlX10 hP 0 rfl rfl 4 rfl mfl_X10_26 rfl rfl dX10_takeMark_5 ?_
  refine uIald (i := (nI v_K_next)) (j := v_K_next) B hP 1 rfl (nI_in (by omega) (by omega)) (nI_clamp (by omega)) dX10_takeMark_8 ?_
  obtain ⟨a1, ha1, ea1⟩ := uRnat r_K_bytes v_K_next (by decide)
  simp only [Int32.reduceToInt] at ha1
  refine lv_fixi (y := (nI a1)) ea1 ?_
  refine lv_pc (q := 9) rfl ?_
  refine lv_istore_n (lv' := [(1, .int (nI a1)), (0, .ref a_K)]) hx hb dX10_takeMark_9 rfl hl (by decide) rfl (fun ls hl => ?_)
  refine lv_aload_n hx hb dX10_takeMark_10 rfl (lv_at hl 1 rfl) ?_
  refine lv_iload_n hx hb dX10_takeMark_11 rfl (lv_at hl 0 rfl) ?_
  refine lv_bipush (v := 59) hx hb dX10_takeMark_12 (by decide) ?_
  refine lv_icmp_ne (tgt := 21) hx hb dX10_takeMark_14 (by decide) (fun c2 => ?_) (fun c2 => ?_)
  · have k_2 : ¬ a1 = 59 := fun h9 => c2 ((nI_eq (a := a1) (b := 59) (by omega) (by omega)).mpr h9)
    refine lv_iload_n hx hb dX10_takeMark_21 rfl (lv_at hl 0 rfl) ?_
    refine lv_pc (q := 22) rfl ?_
    refine lv_bipush (v := 44) hx hb dX10_takeMark_22 (by decide) ?_
    refine lv_icmp_ne (tgt := 31) hx hb dX10_takeMark_24 (by decide) (fun c3 => ?_) (fun c3 => ?_)
    · have k_3 : ¬ a1 = 44 := fun h9 => c3 ((nI_eq (a := a1) (b := 44) (by omega) (by omega)).mpr h9)
      refine lv_iconst (v := 5) hx hb dX10_takeMark_31 (by decide) ?_
      refine uPut (ci := 10) (C := RX10) (T := TX10) (N := 10) (ws' := [(a_K, .inr (10, [.ref a_K_bytes, .ref a_K_keyNames, .int (nI v_K_size), .int (nI v_K_length), .int (nI v_K_next), .int 5, .int (nI v_K_place), .int (nI v_K_number), .long v_K_name, .int v_K_key])), (a_K_bytes, .inl (K 0, 1000, .inl f_K_bytes))]) B inlX10 tyX10_ok nmX10 hP hD hS 0 rfl rfl 5 rfl mfl_X10_29 rfl rfl rfl rfl rfl rfl dX10_takeMark_32 (fun H locs hP hD hS => ?_)
      refine lv_aload_n hx hb dX10_takeMark_35 rfl (lv_at hl 1 rfl) ?_
      refine lv_dup hx hb dX10_takeMark_36 rfl ?_
      refine lv_pc (q := 37) rfl ?_
      refine uGet (ci := 10) (C := RX10) (T := TX10) (N := 10) (v := .int (nI v_K_next)) B inlX10 hP 0 rfl rfl 4 rfl mfl_X10_26 rfl rfl dX10_takeMark_37 ?_
      refine lv_iconst (v := 1) hx hb dX10_takeMark_40 (by decide) ?_
      refine lv_iadd hx hb dX10_takeMark_41 ?_
      refine lv_fixi (y := (nI (v_K_next + 1))) (by rw [show (1 : Int32) = nI 1 from rfl, nI_add]) ?_
      refine uPut (ci := 10) (C := RX10) (T := TX10) (N := 10) (ws' := [(a_K, .inr (10, [.ref a_K_bytes, .ref a_K_keyNames, .int (nI v_K_size), .int (nI v_K_length), .int (nI (v_K_next + 1)), .int 5, .int (nI v_K_place), .int (nI v_K_number), .long v_K_name, .int v_K_key])), (a_K_bytes, .inl (K 0, 1000, .inl f_K_bytes))]) B inlX10 tyX10_ok nmX10 hP hD hS 0 rfl rfl 4 rfl mfl_X10_26 rfl rfl rfl rfl rfl rfl dX10_takeMark_42 (fun H locs hP hD hS => ?_)
      exact uRv (v_K_next + 1, 5) B ⟨(by (try dsimp only); omega), (by (try dsimp only); omega), rfl, (urMq3 ea1 (by omega) (by omega) (by omega))⟩ (uSub hP [0, 1] rfl) (hD.sub [0, 1] rfl rfl) hS dX10_takeMark_45
    have k_3 : a1 = 44 := (nI_eq (a := a1) (b := 44) (by omega) (by omega)).mp c3
    refine lv_iconst (v := 4) hx hb dX10_takeMark_27 (by decide) ?_
    refine lv_goto (tgt := 32) hx hb dX10_takeMark_28 (by decide) ?_
    refine uPut (ci := 10) (C := RX10) (T := TX10) (N := 10) (ws' := [(a_K, .inr (10, [.ref a_K_bytes, .ref a_K_keyNames, .int (nI v_K_size), .int (nI v_K_length), .int (nI v_K_next), .int 4, .int (nI v_K_place), .int (nI v_K_number), .long v_K_name, .int v_K_key])), (a_K_bytes, .inl (K 0, 1000, .inl f_K_bytes))]) B inlX10 tyX10_ok nmX10 hP hD hS 0 rfl rfl 5 rfl mfl_X10_29 rfl rfl rfl rfl rfl rfl dX10_takeMark_32 (fun H locs hP hD hS => ?_)
    refine lv_aload_n hx hb dX10_takeMark_35 rfl (lv_at hl 1 rfl) ?_
    refine lv_pc (q := 36) rfl ?_
    refine lv_dup hx hb dX10_takeMark_36 rfl ?_
    refine uGet (ci := 10) (C := RX10) (T := TX10) (N := 10) (v := .int (nI v_K_next)) B inlX10 hP 0 rfl rfl 4 rfl mfl_X10_26 rfl rfl dX10_takeMark_37 ?_
    refine lv_iconst (v := 1) hx hb dX10_takeMark_40 (by decide) ?_
    refine lv_iadd hx hb dX10_takeMark_41 ?_
    refine lv_fixi (y := (nI (v_K_next + 1))) (by rw [show (1 : Int32) = nI 1 from rfl, nI_add]) ?_
    refine uPut (ci := 10) (C := RX10) (T := TX10) (N := 10) (ws' := [(a_K, .inr (10, [.ref a_K_bytes, .ref a_K_keyNames, .int (nI v_K_size), .int (nI v_K_length), .int (nI (v_K_next + 1)), .int 4, .int (nI v_K_place), .int (nI v_K_number), .long v_K_name, .int v_K_key])), (a_K_bytes, .inl (K 0, 1000, .inl f_K_bytes))]) B inlX10 tyX10_ok nmX10 hP hD hS 0 rfl rfl 4 rfl mfl_X10_26 rfl rfl rfl rfl rfl rfl dX10_takeMark_42 (fun H locs hP hD hS => ?_)
    exact uRv (v_K_next + 1, 4) B ⟨(by (try dsimp only); omega), (by (try dsimp only); omega), rfl, (urMq2 ea1 (by omega))⟩ (uSub hP [0, 1] rfl) (hD.sub [0, 1] rfl rfl) hS dX10_takeMark_45
  have k_2 : a1 = 59 := (nI_eq (a := a1) (b := 59) (by omega) (by omega)).mp c2
  refine lv_iconst (v := 3) hx hb dX10_takeMark_17 (by decide) ?_
  refine lv_pc (q := 18) rfl ?_
  refine lv_goto (tgt := 32) hx hb dX10_takeMark_18 (by decide) ?_
  refine uPut (ci := 10) (C := RX10) (T := TX10) (N := 10) (ws' := [(a_K, .inr (10, [.ref a_K_bytes, .ref a_K_keyNames, .int (nI v_K_size), .int (nI v_K_length), .int (nI v_K_next), .int 3, .int (nI v_K_place), .int (nI v_K_number), .long v_K_name, .int v_K_key])), (a_K_bytes, .inl (K 0, 1000, .inl f_K_bytes))]) B inlX10 tyX10_ok nmX10 hP hD hS 0 rfl rfl 5 rfl mfl_X10_29 rfl rfl rfl rfl rfl rfl dX10_takeMark_32 (fun H locs hP hD hS => ?_)
  refine lv_aload_n hx hb dX10_takeMark_35 rfl (lv_at hl 1 rfl) ?_
  refine lv_dup hx hb dX10_takeMark_36 rfl ?_
  refine uGet (ci := 10) (C := RX10) (T := TX10) (N := 10) (v := .int (nI v_K_next)) B inlX10 hP 0 rfl rfl 4 rfl mfl_X10_26 rfl rfl dX10_takeMark_37 ?_
  refine lv_iconst (v := 1) hx hb dX10_takeMark_40 (by decide) ?_
  refine lv_pc (q := 41) rfl ?_
  refine lv_iadd hx hb dX10_takeMark_41 ?_
  refine lv_fixi (y := (nI (v_K_next + 1))) (by rw [show (1 : Int32) = nI 1 from rfl, nI_add]) ?_
  refine uPut (ci := 10) (C := RX10) (T := TX10) (N := 10) (ws' := [(a_K, .inr (10, [.ref a_K_bytes, .ref a_K_keyNames, .int (nI v_K_size), .int (nI v_K_length), .int (nI (v_K_next + 1)), .int 3, .int (nI v_K_place), .int (nI v_K_number), .long v_K_name, .int v_K_key])), (a_K_bytes, .inl (K 0, 1000, .inl f_K_bytes))]) B inlX10 tyX10_ok nmX10 hP hD hS 0 rfl rfl 4 rfl mfl_X10_26 rfl rfl rfl rfl rfl rfl dX10_takeMark_42 (fun H locs hP hD hS => ?_)
  exact uRv (v_K_next + 1, 3) B ⟨(by (try dsimp only); omega), (by (try dsimp only); omega), rfl, (urMq1 ea1 (by omega))⟩ (uSub hP [0, 1] rfl) (hD.sub [0, 1] rfl rfl) hS dX10_takeMark_45
def qwX10_advance_vc (a_K : Nat) (v_K_size : Nat) (v_K_length : Nat) (v_K_next : Nat) (v_K_kind : Nat) (v_K_place : Nat) (v_K_number : Nat) (v_K_name : Int64) (v_K_key : Int32) (a_K_bytes : Nat) (f_K_bytes : Nat → Int32) (a_K_keyNames : Nat) (f_K_keyNames : Nat → Int64) : (Nat × Nat × Nat × Nat × Int64 × Int32) → Prop := (fun (u : Nat × Nat × Nat × Nat × Int64 × Int32) => (u.1 ≤ 1000) ∧ (u.2.1 ≤ 5) ∧ (u.2.2.1 ≤ 1000) ∧ (u.2.2.2.1 ≤ 1000) ∧ (urTk f_K_bytes v_K_length u.2.2.1 u.1 u.2.1 u.2.2.2.1 u.2.2.2.2.1 u.2.2.2.2.2) ∧ (u.2.2.1 = urTo (urBl f_K_bytes) v_K_length v_K_next))
def vwX10_advance_vc (K : Nat → ClassId) (a_K : Nat) (v_K_size : Nat) (v_K_length : Nat) (v_K_next : Nat) (v_K_kind : Nat) (v_K_place : Nat) (v_K_number : Nat) (v_K_name : Int64) (v_K_key : Int32) (a_K_bytes : Nat) (f_K_bytes : Nat → Int32) (a_K_keyNames : Nat) (f_K_keyNames : Nat → Int64) : (Nat × Nat × Nat × Nat × Int64 × Int32) → va_W := (fun (u : Nat × Nat × Nat × Nat × Int64 × Int32) => [(a_K, .inr (10, [.ref a_K_bytes, .ref a_K_keyNames, .int (nI v_K_size), .int (nI v_K_length), .int (nI ((u.1))), .int (nI ((u.2.1))), .int (nI ((u.2.2.1))), .int (nI ((u.2.2.2.1))), .long u.2.2.2.2.1, .int u.2.2.2.2.2])), (a_K_bytes, .inl (K 0, 1000, .inl f_K_bytes)), (a_K_keyNames, .inl (K 2, 13, .inr (.inl f_K_keyNames)))])
set_option maxHeartbeats 4000000 in
set_option maxRecDepth 100000 in
theorem wX10_advance_vc (l : Launch) (D : va_G) (K : Nat → ClassId) (sz : Nat) (a_K : Nat) (v_K_size : Nat) (v_K_length : Nat) (v_K_next : Nat) (v_K_kind : Nat) (v_K_place : Nat) (v_K_number : Nat) (v_K_name : Int64) (v_K_key : Int32) (a_K_bytes : Nat) (f_K_bytes : Nat → Int32) (a_K_keyNames : Nat) (f_K_keyNames : Nat → Int64) (hv_K_size : v_K_size ≤ 1000) (hv_K_length : v_K_length ≤ 1000) (hv_K_next : v_K_next ≤ 1000) (hv_K_kind : v_K_kind ≤ 5) (hv_K_place : v_K_place ≤ 1000) (hv_K_number : v_K_number ≤ 1000) (r_K_bytes : uRg f_K_bytes 0 255) (i_urKN : urKn f_K_keyNames) : uMv l yX10_advance cX10_advance 1 { frames := 2, cells := 0, slots := 0, locals := 43 } [.ref a_K] D K [(a_K, .inr (10, [.ref a_K_bytes, .ref a_K_keyNames, .int (nI v_K_size), .int (nI v_K_length), .int (nI v_K_next), .int (nI v_K_kind), .int (nI v_K_place), .int (nI v_K_number), .long v_K_name, .int v_K_key])), (a_K_bytes, .inl (K 0, 1000, .inl f_K_bytes)), (a_K_keyNames, .inl (K 2, 13, .inr (.inl f_K_keyNames)))] sz (qwX10_advance_vc a_K v_K_size v_K_length v_K_next v_K_kind v_K_place v_K_number v_K_name v_K_key a_K_bytes f_K_bytes a_K_keyNames f_K_keyNames) (vwX10_advance_vc K a_K v_K_size v_K_length v_K_next v_K_kind v_K_place v_K_number v_K_name v_K_key a_K_bytes f_K_bytes a_K_keyNames f_K_keyNames) := by
  refine uMet (Qc := uQv D (qwX10_advance_vc a_K v_K_size v_K_length v_K_next v_K_kind v_K_place v_K_number v_K_name v_K_key a_K_bytes f_K_bytes a_K_keyNames f_K_keyNames) (vwX10_advance_vc K a_K v_K_size v_K_length v_K_next v_K_kind v_K_place v_K_number v_K_name v_K_key a_K_bytes f_K_bytes a_K_keyNames f_K_keyNames)) (ret := none) (by decide) (Nat.le_of_ble_eq_true rfl) ?_
  intro p e s m below meth c A ls hAe hsz B hP hD hS hl
  have hx := B.1
  have hb := B.2.1
  have hl : lv_has ls 1 [(0, .ref a_K)] := hl
  have L6 : ∀ (n9 : Nat) (y1 : Nat), (y1 ≤ 1000) → (v_K_next ≤ y1) → (y1 ≤ v_K_length ∨ y1 = v_K_next) → (urSp (urBl f_K_bytes) v_K_next y1) → v_K_length - y1 < n9 → ∀ (H : Heap) (locs : List Loc) (ls : Array Slot), va_P D vwCl [(a_K, .inr (10, [.ref a_K_bytes, .ref a_K_keyNames, .int (nI v_K_size), .int (nI v_K_length), .int (nI y1), .int (nI v_K_kind), .int (nI v_K_place), .int (nI v_K_number), .long v_K_name, .int v_K_key])), (a_K_bytes, .inl (K 0, 1000, .inl f_K_bytes)), (a_K_keyNames, .inl (K 2, 13, .inr (.inl f_K_keyNames)))] H → va_D A [(a_K, .inr (10, [.ref a_K_bytes, .ref a_K_keyNames, .int (nI v_K_size), .int (nI v_K_length), .int (nI y1), .int (nI v_K_kind), .int (nI v_K_place), .int (nI v_K_number), .long v_K_name, .int v_K_key])), (a_K_bytes, .inl (K 0, 1000, .inl f_K_bytes)), (a_K_keyNames, .inl (K 2, 13, .inr (.inl f_K_keyNames)))] → va_S A s.heap H locs → lv_has ls 1 [(0, .ref a_K)] → W p l e { frames := 2, cells := 0, slots := 0, locals := 43 } s m ([.ref a_K] : List Value).toArray below meth c H locs 0 0 (MQ below (uQv D (qwX10_advance_vc a_K v_K_size v_K_length v_K_next v_K_kind v_K_place v_K_number v_K_name v_K_key a_K_bytes f_K_bytes a_K_keyNames f_K_keyNames) (vwX10_advance_vc K a_K v_K_size v_K_length v_K_next v_K_kind v_K_place v_K_number v_K_name v_K_key a_K_bytes f_K_bytes a_K_keyNames f_K_keyNames) A) ([.ref a_K] : List Value).toArray s 0 0 A) (F0 m 0 ls []) := by
    intro n9
    induction n9 with
    | zero => intros; exact absurd ‹_ < 0› (Nat.not_lt_zero _)
    | succ n0_ ih0 =>
      intro y1 hy1 xa_2 xb_3 xs_4 hm0 H locs ls hP hD hS hl
      refine lv_aload_n hx hb dX10_advance_0 rfl (lv_at hl 0 rfl) ?_
      refine uGet (ci := 10) (C := RX10) (T := TX10) (N := 10) (v := .int (nI y1)) B inlX10 hP 0 rfl rfl 4 rfl mfl_X10_26 rfl rfl dX10_advance_1 ?_
      refine lv_aload_n hx hb dX10_advance_4 rfl (lv_at hl 0 rfl) ?_
      refine uGet (ci := 10) (C := RX10) (T := TX10) (N := 10) (v := .int (nI v_K_length)) B inlX10 hP 0 rfl rfl 3 rfl mfl_X10_23 rfl rfl dX10_advance_5 ?_
      refine lv_icmp_ge (tgt := 52) hx hb dX10_advance_8 (by decide) (fun c7 => ?_) (fun c7 => ?_)
      · have k_7 : v_K_length ≤ y1 := (nI_leI (a := v_K_length) (b := y1) (by omega) (by omega)).mp c7
        refine lv_pc (q := 52) rfl ?_
        have hk8 : y1 = urTo (urBl f_K_bytes) v_K_length v_K_next := urToE1 (by omega) (by omega) xs_4 (by omega)
        refine lv_aload_n hx hb dX10_advance_52 rfl (lv_at hl 0 rfl) ?_
        refine lv_aload_n hx hb dX10_advance_53 rfl (lv_at hl 0 rfl) ?_
        refine uGet (ci := 10) (C := RX10) (T := TX10) (N := 10) (v := .int (nI y1)) B inlX10 hP 0 rfl rfl 4 rfl mfl_X10_26 rfl rfl dX10_advance_54 ?_
        refine uPut (ci := 10) (C := RX10) (T := TX10) (N := 10) (ws' := [(a_K, .inr (10, [.ref a_K_bytes, .ref a_K_keyNames, .int (nI v_K_size), .int (nI v_K_length), .int (nI y1), .int (nI v_K_kind), .int (nI y1), .int (nI v_K_number), .long v_K_name, .int v_K_key])), (a_K_bytes, .inl (K 0, 1000, .inl f_K_bytes)), (a_K_keyNames, .inl (K 2, 13, .inr (.inl f_K_keyNames)))]) B inlX10 tyX10_ok nmX10 hP hD hS 0 rfl rfl 6 rfl mfl_X10_32 rfl rfl rfl rfl rfl rfl dX10_advance_57 (fun H locs hP hD hS => ?_)
        refine lv_aload_n hx hb dX10_advance_60 rfl (lv_at hl 0 rfl) ?_
        refine lv_iconst (v := (-1)) hx hb dX10_advance_61 (by decide) ?_
        refine lv_pc (q := 62) rfl ?_
        refine uPut (ci := 10) (C := RX10) (T := TX10) (N := 10) (ws' := [(a_K, .inr (10, [.ref a_K_bytes, .ref a_K_keyNames, .int (nI v_K_size), .int (nI v_K_length), .int (nI y1), .int (nI v_K_kind), .int (nI y1), .int (nI v_K_number), .long v_K_name, .int (-1)])), (a_K_bytes, .inl (K 0, 1000, .inl f_K_bytes)), (a_K_keyNames, .inl (K 2, 13, .inr (.inl f_K_keyNames)))]) B inlX10 tyX10_ok nmX10 hP hD hS 0 rfl rfl 9 rfl mfl_X10_42 rfl rfl rfl rfl rfl rfl dX10_advance_62 (fun H locs hP hD hS => ?_)
        refine lv_aload_n hx hb dX10_advance_65 rfl (lv_at hl 0 rfl) ?_
        refine uGet (ci := 10) (C := RX10) (T := TX10) (N := 10) (v := .int (nI y1)) B inlX10 hP 0 rfl rfl 4 rfl mfl_X10_26 rfl rfl dX10_advance_66 ?_
        refine lv_aload_n hx hb dX10_advance_69 rfl (lv_at hl 0 rfl) ?_
        refine uGet (ci := 10) (C := RX10) (T := TX10) (N := 10) (v := .int (nI v_K_length)) B inlX10 hP 0 rfl rfl 3 rfl mfl_X10_23 rfl rfl dX10_advance_70 ?_
        refine lv_icmp_lt (tgt := 84) hx hb dX10_advance_73 (by decide) (fun c9 => ?_) (fun c9 => ?_)
        · have k_9 : y1 < v_K_length := (nI_ltI (a := y1) (b := v_K_length) (by omega) (by omega)).mp c9
          refine lv_pc (q := 84) rfl ?_
          refine lv_aload_n hx hb dX10_advance_84 rfl (lv_at hl 0 rfl) ?_
          refine uGet (ci := 10) (C := RX10) (T := TX10) (N := 10) (v := .ref a_K_bytes) B inlX10 hP 0 rfl rfl 0 rfl mfl_X10_9 rfl rfl dX10_advance_85 ?_
          refine lv_aload_n hx hb dX10_advance_88 rfl (lv_at hl 0 rfl) ?_
          refine uGet (ci := 10) (C := RX10) (T := TX10) (N := 10) (v := .int (nI y1)) B inlX10 hP 0 rfl rfl 4 rfl mfl_X10_26 rfl rfl dX10_advance_89 ?_
          refine uIald (i := (nI y1)) (j := y1) B hP 1 rfl (nI_in (by omega) (by omega)) (nI_clamp (by omega)) dX10_advance_92 ?_
          obtain ⟨a10, ha10, ea10⟩ := uRnat r_K_bytes y1 (by decide)
          simp only [Int32.reduceToInt] at ha10
          refine lv_fixi (y := (nI a10)) ea10 ?_
          refine uSi (As := [.int (nI a10)]) (rest := []) (wr := [(a_K, .inr (10, [.ref a_K_bytes, .ref a_K_keyNames, .int (nI v_K_size), .int (nI v_K_length), .int (nI y1), .int (nI v_K_kind), .int (nI y1), .int (nI v_K_number), .long v_K_name, .int (-1)])), (a_K_bytes, .inl (K 0, 1000, .inl f_K_bytes)), (a_K_keyNames, .inl (K 2, 13, .inr (.inl f_K_keyNames)))]) [] B hl.1 hP hD hS [] [0, 1, 2] rfl rfl rfl (wX10_isLetter_vc l D K _ a10 (by omega)) wd_X10_isLetter mml_X10_65 rfl rfl ⟨Nat.le_of_ble_eq_true rfl, Nat.le_of_ble_eq_true rfl⟩ (Nat.le_of_ble_eq_true rfl) ⟨Nat.le_of_ble_eq_true rfl, Nat.le_of_ble_eq_true rfl⟩ dX10_advance_93 (fun r11 u H locs hw hP hD hS => ?_)
          try dsimp only at hw
          have w12 := hw
          have hP : va_P D vwCl [(a_K, .inr (10, [.ref a_K_bytes, .ref a_K_keyNames, .int (nI v_K_size), .int (nI v_K_length), .int (nI y1), .int (nI v_K_kind), .int (nI y1), .int (nI v_K_number), .long v_K_name, .int (-1)])), (a_K_bytes, .inl (K 0, 1000, .inl f_K_bytes)), (a_K_keyNames, .inl (K 2, 13, .inr (.inl f_K_keyNames)))] H := hP
          have hD := uDPJ hP hD
          rcases w12 with ⟨rfl, w13⟩ | ⟨rfl, w14⟩
          · refine lv_pc (q := 96) rfl ?_
            refine lv_if_eq (tgt := 106) hx hb dX10_advance_96 (by decide) (fun _ => ?_) (fun h9 => absurd (by decide) h9)
            refine lv_aload_n hx hb dX10_advance_106 rfl (lv_at hl 0 rfl) ?_
            refine uGet (ci := 10) (C := RX10) (T := TX10) (N := 10) (v := .ref a_K_bytes) B inlX10 hP 0 rfl rfl 0 rfl mfl_X10_9 rfl rfl dX10_advance_107 ?_
            refine lv_aload_n hx hb dX10_advance_110 rfl (lv_at hl 0 rfl) ?_
            refine uGet (ci := 10) (C := RX10) (T := TX10) (N := 10) (v := .int (nI y1)) B inlX10 hP 0 rfl rfl 4 rfl mfl_X10_26 rfl rfl dX10_advance_111 ?_
            refine uIald (i := (nI y1)) (j := y1) B hP 1 rfl (nI_in (by omega) (by omega)) (nI_clamp (by omega)) dX10_advance_114 ?_
            refine lv_fixi (y := (nI a10)) ea10 ?_
            refine lv_pc (q := 115) rfl ?_
            refine uSi (As := [.int (nI a10)]) (rest := []) (wr := [(a_K, .inr (10, [.ref a_K_bytes, .ref a_K_keyNames, .int (nI v_K_size), .int (nI v_K_length), .int (nI y1), .int (nI v_K_kind), .int (nI y1), .int (nI v_K_number), .long v_K_name, .int (-1)])), (a_K_bytes, .inl (K 0, 1000, .inl f_K_bytes)), (a_K_keyNames, .inl (K 2, 13, .inr (.inl f_K_keyNames)))]) [] B hl.1 hP hD hS [] [0, 1, 2] rfl rfl rfl (wX10_isDigit_vc l D K _ a10 (by omega)) wd_X10_isDigit mml_X10_72 rfl rfl ⟨Nat.le_of_ble_eq_true rfl, Nat.le_of_ble_eq_true rfl⟩ (Nat.le_of_ble_eq_true rfl) ⟨Nat.le_of_ble_eq_true rfl, Nat.le_of_ble_eq_true rfl⟩ dX10_advance_115 (fun r15 u H locs hw hP hD hS => ?_)
            try dsimp only at hw
            have w16 := hw
            have hP : va_P D vwCl [(a_K, .inr (10, [.ref a_K_bytes, .ref a_K_keyNames, .int (nI v_K_size), .int (nI v_K_length), .int (nI y1), .int (nI v_K_kind), .int (nI y1), .int (nI v_K_number), .long v_K_name, .int (-1)])), (a_K_bytes, .inl (K 0, 1000, .inl f_K_bytes)), (a_K_keyNames, .inl (K 2, 13, .inr (.inl f_K_keyNames)))] H := hP
            have hD := uDPJ hP hD
            rcases w16 with ⟨rfl, w17⟩ | ⟨rfl, w18⟩
            · refine lv_if_eq (tgt := 128) hx hb dX10_advance_118 (by decide) (fun _ => ?_) (fun h9 => absurd (by decide) h9)
              refine lv_aload_n hx hb dX10_advance_128 rfl (lv_at hl 0 rfl) ?_
              refine uVvJ (As := []) (rest := []) (wr := [(a_K_keyNames, .inl (K 2, 13, .inr (.inl f_K_keyNames)))]) (wX10_takeMark_vc l D K _ a_K v_K_size v_K_length y1 v_K_kind y1 v_K_number v_K_name (-1) a_K_bytes f_K_bytes a_K_keyNames (by omega) (by omega) (by omega) (by omega) (by omega) (by omega) r_K_bytes (by omega)) B hl.1 hP hD hS [0, 1] [2] rfl rfl rfl wd_X10_takeMark mml_X10_78 rfl rfl rfl rfl ⟨Nat.le_of_ble_eq_true rfl, Nat.le_of_ble_eq_true rfl⟩ (Nat.le_of_ble_eq_true rfl) ⟨Nat.le_of_ble_eq_true rfl, Nat.le_of_ble_eq_true rfl⟩ dX10_advance_129 (fun u H locs hw hP hD hS => ?_)
              obtain ⟨u20, u21⟩ := u
              try dsimp only at hw
              obtain ⟨w22, w23, w24, w25⟩ := hw
              replace w22 : u20 ≤ 1000 := w22
              replace w23 : u21 ≤ 5 := w23
              replace w24 : u20 = y1 + 1 := w24
              replace w25 : urMq (f_K_bytes y1) u21 := w25
              have hP : va_P D vwCl [(a_K_keyNames, .inl (K 2, 13, .inr (.inl f_K_keyNames))), (a_K, .inr (10, [.ref a_K_bytes, .ref a_K_keyNames, .int (nI v_K_size), .int (nI v_K_length), .int (nI u20), .int (nI u21), .int (nI y1), .int (nI v_K_number), .long v_K_name, .int (-1)])), (a_K_bytes, .inl (K 0, 1000, .inl f_K_bytes))] H := hP
              have hD := uDPJ hP hD
              exact uRv (u20, u21, y1, v_K_number, v_K_name, (-1)) B ⟨(by (try dsimp only); omega), (by (try dsimp only); omega), (by (try dsimp only); omega), (by (try dsimp only); omega), (urTkM (by omega) (urLtN ea10 (by omega) w13) (urDgN ea10 (by omega) w17) w24 w25), hk8⟩ (uSub hP [1, 2, 0] rfl) (hD.sub [1, 2, 0] rfl rfl) hS dX10_advance_132
            refine lv_if_eq (tgt := 128) hx hb dX10_advance_118 (by decide) (fun h9 => absurd h9 (by decide)) (fun _ => ?_)
            refine lv_aload_n hx hb dX10_advance_121 rfl (lv_at hl 0 rfl) ?_
            refine uVvJ (As := []) (rest := []) (wr := [(a_K_keyNames, .inl (K 2, 13, .inr (.inl f_K_keyNames)))]) (wX10_takeNumber_vc l D K _ a_K v_K_size v_K_length y1 v_K_kind y1 v_K_number v_K_name (-1) a_K_bytes f_K_bytes a_K_keyNames (by omega) (by omega) (by omega) (by omega) (by omega) (by omega) r_K_bytes (by omega)) B hl.1 hP hD hS [0, 1] [2] rfl rfl rfl wd_X10_takeNumber mml_X10_75 rfl rfl rfl rfl ⟨Nat.le_of_ble_eq_true rfl, Nat.le_of_ble_eq_true rfl⟩ (Nat.le_of_ble_eq_true rfl) ⟨Nat.le_of_ble_eq_true rfl, Nat.le_of_ble_eq_true rfl⟩ dX10_advance_122 (fun u H locs hw hP hD hS => ?_)
            obtain ⟨u27, u28, u29⟩ := u
            try dsimp only at hw
            obtain ⟨w30, w31, w32, w33, w34, w35⟩ := hw
            replace w30 : u27 ≤ 1000 := w30
            replace w31 : u28 ≤ 5 := w31
            replace w32 : u29 ≤ 1000 := w32
            replace w33 : u27 = urTo (urDg f_K_bytes) v_K_length y1 := w33
            replace w34 : u29 = urNb f_K_bytes y1 (u27 - y1) := w34
            replace w35 : u28 = 2 := w35
            have hP : va_P D vwCl [(a_K_keyNames, .inl (K 2, 13, .inr (.inl f_K_keyNames))), (a_K, .inr (10, [.ref a_K_bytes, .ref a_K_keyNames, .int (nI v_K_size), .int (nI v_K_length), .int (nI u27), .int (nI u28), .int (nI y1), .int (nI u29), .long v_K_name, .int (-1)])), (a_K_bytes, .inl (K 0, 1000, .inl f_K_bytes))] H := hP
            have hD := uDPJ hP hD
            refine lv_goto (tgt := 132) hx hb dX10_advance_125 (by decide) ?_
            exact uRv (u27, u28, y1, u29, v_K_name, (-1)) B ⟨(by (try dsimp only); omega), (by (try dsimp only); omega), (by (try dsimp only); omega), (by (try dsimp only); omega), (urTkD (by omega) (urLtN ea10 (by omega) w13) (urDgY ea10 w18) w33 w35 w34), hk8⟩ (uSub hP [1, 2, 0] rfl) (hD.sub [1, 2, 0] rfl rfl) hS dX10_advance_132
          refine lv_pc (q := 96) rfl ?_
          refine lv_if_eq (tgt := 106) hx hb dX10_advance_96 (by decide) (fun h9 => absurd h9 (by decide)) (fun _ => ?_)
          refine lv_aload_n hx hb dX10_advance_99 rfl (lv_at hl 0 rfl) ?_
          refine uVvJ (As := []) (rest := []) (wr := []) (wX10_takeName_vc l D K _ a_K v_K_size v_K_length y1 v_K_kind y1 v_K_number v_K_name (-1) a_K_bytes f_K_bytes a_K_keyNames f_K_keyNames (by omega) (by omega) (by omega) (by omega) (by omega) (by omega) r_K_bytes (by omega) (by omega)) B hl.1 hP hD hS [0, 1, 2] [] rfl rfl rfl wd_X10_takeName mml_X10_69 rfl rfl rfl rfl ⟨Nat.le_of_ble_eq_true rfl, Nat.le_of_ble_eq_true rfl⟩ (Nat.le_of_ble_eq_true rfl) ⟨Nat.le_of_ble_eq_true rfl, Nat.le_of_ble_eq_true rfl⟩ dX10_advance_100 (fun u H locs hw hP hD hS => ?_)
          obtain ⟨u37, u38, u39, u40⟩ := u
          try dsimp only at hw
          obtain ⟨w41, w42, w43, w44⟩ := hw
          replace w41 : u37 ≤ 1000 := w41
          replace w42 : u38 ≤ 5 := w42
          replace w43 : u37 = urTo (urLt f_K_bytes) v_K_length y1 := w43
          replace w44 : urNk f_K_keyNames f_K_bytes y1 u37 u38 u39 u40 (-1) := w44
          have hP : va_P D vwCl [(a_K, .inr (10, [.ref a_K_bytes, .ref a_K_keyNames, .int (nI v_K_size), .int (nI v_K_length), .int (nI u37), .int (nI u38), .int (nI y1), .int (nI v_K_number), .long u39, .int u40])), (a_K_bytes, .inl (K 0, 1000, .inl f_K_bytes)), (a_K_keyNames, .inl (K 2, 13, .inr (.inl f_K_keyNames)))] H := hP
          have hD := uDPJ hP hD
          refine lv_goto (tgt := 132) hx hb dX10_advance_103 (by decide) ?_
          exact uRv (u37, u38, y1, v_K_number, u39, u40) B ⟨(by (try dsimp only); omega), (by (try dsimp only); omega), (by (try dsimp only); omega), (by (try dsimp only); omega), (urTkN i_urKN (by omega) (urLtY ea10 w14) w43 w44), hk8⟩ (uSub hP [0, 1, 2] rfl) (hD.sub [0, 1, 2] rfl rfl) hS dX10_advance_132
        have k_9 : ¬ y1 < v_K_length := fun h9 => c9 ((nI_ltI (a := y1) (b := v_K_length) (by omega) (by omega)).mpr h9)
        refine lv_pc (q := 76) rfl ?_
        refine lv_aload_n hx hb dX10_advance_76 rfl (lv_at hl 0 rfl) ?_
        refine lv_iconst (v := 0) hx hb dX10_advance_77 (by decide) ?_
        refine uPut (ci := 10) (C := RX10) (T := TX10) (N := 10) (ws' := [(a_K, .inr (10, [.ref a_K_bytes, .ref a_K_keyNames, .int (nI v_K_size), .int (nI v_K_length), .int (nI y1), .int 0, .int (nI y1), .int (nI v_K_number), .long v_K_name, .int (-1)])), (a_K_bytes, .inl (K 0, 1000, .inl f_K_bytes)), (a_K_keyNames, .inl (K 2, 13, .inr (.inl f_K_keyNames)))]) B inlX10 tyX10_ok nmX10 hP hD hS 0 rfl rfl 5 rfl mfl_X10_29 rfl rfl rfl rfl rfl rfl dX10_advance_78 (fun H locs hP hD hS => ?_)
        refine lv_goto (tgt := 132) hx hb dX10_advance_81 (by decide) ?_
        exact uRv (y1, 0, y1, v_K_number, v_K_name, (-1)) B ⟨(by (try dsimp only); omega), (by (try dsimp only); omega), (by (try dsimp only); omega), (by (try dsimp only); omega), (urTkE (by omega)), hk8⟩ (uSub hP [0, 1, 2] rfl) (hD.sub [0, 1, 2] rfl rfl) hS dX10_advance_132
      have k_7 : ¬ v_K_length ≤ y1 := fun h9 => c7 ((nI_leI (a := v_K_length) (b := y1) (by omega) (by omega)).mpr h9)
      refine lv_pc (q := 11) rfl ?_
      refine lv_aload_n hx hb dX10_advance_11 rfl (lv_at hl 0 rfl) ?_
      refine uGet (ci := 10) (C := RX10) (T := TX10) (N := 10) (v := .ref a_K_bytes) B inlX10 hP 0 rfl rfl 0 rfl mfl_X10_9 rfl rfl dX10_advance_12 ?_
      refine lv_aload_n hx hb dX10_advance_15 rfl (lv_at hl 0 rfl) ?_
      refine uGet (ci := 10) (C := RX10) (T := TX10) (N := 10) (v := .int (nI y1)) B inlX10 hP 0 rfl rfl 4 rfl mfl_X10_26 rfl rfl dX10_advance_16 ?_
      refine uIald (i := (nI y1)) (j := y1) B hP 1 rfl (nI_in (by omega) (by omega)) (nI_clamp (by omega)) dX10_advance_19 ?_
      obtain ⟨a45, ha45, ea45⟩ := uRnat r_K_bytes y1 (by decide)
      simp only [Int32.reduceToInt] at ha45
      refine lv_fixi (y := (nI a45)) ea45 ?_
      refine lv_bipush (v := 32) hx hb dX10_advance_20 (by decide) ?_
      refine lv_pc (q := 22) rfl ?_
      refine lv_icmp_eq (tgt := 39) hx hb dX10_advance_22 (by decide) (fun c46 => ?_) (fun c46 => ?_)
      · have k_46 : a45 = 32 := (nI_eq (a := a45) (b := 32) (by omega) (by omega)).mp c46
        refine lv_aload_n hx hb dX10_advance_39 rfl (lv_at hl 0 rfl) ?_
        refine lv_dup hx hb dX10_advance_40 rfl ?_
        refine uGet (ci := 10) (C := RX10) (T := TX10) (N := 10) (v := .int (nI y1)) B inlX10 hP 0 rfl rfl 4 rfl mfl_X10_26 rfl rfl dX10_advance_41 ?_
        refine lv_iconst (v := 1) hx hb dX10_advance_44 (by decide) ?_
        refine lv_iadd hx hb dX10_advance_45 ?_
        refine lv_fixi (y := (nI (y1 + 1))) (by rw [show (1 : Int32) = nI 1 from rfl, nI_add]) ?_
        refine lv_pc (q := 46) rfl ?_
        refine uPut (ci := 10) (C := RX10) (T := TX10) (N := 10) (ws' := [(a_K, .inr (10, [.ref a_K_bytes, .ref a_K_keyNames, .int (nI v_K_size), .int (nI v_K_length), .int (nI (y1 + 1)), .int (nI v_K_kind), .int (nI v_K_place), .int (nI v_K_number), .long v_K_name, .int v_K_key])), (a_K_bytes, .inl (K 0, 1000, .inl f_K_bytes)), (a_K_keyNames, .inl (K 2, 13, .inr (.inl f_K_keyNames)))]) B inlX10 tyX10_ok nmX10 hP hD hS 0 rfl rfl 4 rfl mfl_X10_26 rfl rfl rfl rfl rfl rfl dX10_advance_46 (fun H locs hP hD hS => ?_)
        refine lv_goto (tgt := 0) hx hb dX10_advance_49 (by decide) ?_
        refine lv_pc (q := 0) rfl ?_
        refine W.widen (k := 0) (n := 0) (Nat.le_of_ble_eq_true rfl) (Nat.le_of_ble_eq_true rfl) ?_
        exact ih0 (y1 + 1) (by omega) (by omega) (by omega) (urSpS xs_4 (urBlY ea45 (by omega))) (by omega) _ _ _ (uSub hP [0, 1, 2] rfl) (hD.sub [0, 1, 2] rfl rfl) hS (lv_sub hl [0] rfl)
      have k_46 : ¬ a45 = 32 := fun h9 => c46 ((nI_eq (a := a45) (b := 32) (by omega) (by omega)).mpr h9)
      refine lv_aload_n hx hb dX10_advance_25 rfl (lv_at hl 0 rfl) ?_
      refine uGet (ci := 10) (C := RX10) (T := TX10) (N := 10) (v := .ref a_K_bytes) B inlX10 hP 0 rfl rfl 0 rfl mfl_X10_9 rfl rfl dX10_advance_26 ?_
      refine lv_aload_n hx hb dX10_advance_29 rfl (lv_at hl 0 rfl) ?_
      refine uGet (ci := 10) (C := RX10) (T := TX10) (N := 10) (v := .int (nI y1)) B inlX10 hP 0 rfl rfl 4 rfl mfl_X10_26 rfl rfl dX10_advance_30 ?_
      refine uIald (i := (nI y1)) (j := y1) B hP 1 rfl (nI_in (by omega) (by omega)) (nI_clamp (by omega)) dX10_advance_33 ?_
      refine lv_fixi (y := (nI a45)) ea45 ?_
      refine lv_pc (q := 34) rfl ?_
      refine lv_bipush (v := 10) hx hb dX10_advance_34 (by decide) ?_
      refine lv_icmp_ne (tgt := 52) hx hb dX10_advance_36 (by decide) (fun c47 => ?_) (fun c47 => ?_)
      · have k_47 : ¬ a45 = 10 := fun h9 => c47 ((nI_eq (a := a45) (b := 10) (by omega) (by omega)).mpr h9)
        have hk48 : y1 = urTo (urBl f_K_bytes) v_K_length v_K_next := urToE2 (by omega) (by omega) xs_4 (urBlN ea45 (by omega) (by omega) (by omega))
        refine lv_aload_n hx hb dX10_advance_52 rfl (lv_at hl 0 rfl) ?_
        refine lv_aload_n hx hb dX10_advance_53 rfl (lv_at hl 0 rfl) ?_
        refine uGet (ci := 10) (C := RX10) (T := TX10) (N := 10) (v := .int (nI y1)) B inlX10 hP 0 rfl rfl 4 rfl mfl_X10_26 rfl rfl dX10_advance_54 ?_
        refine uPut (ci := 10) (C := RX10) (T := TX10) (N := 10) (ws' := [(a_K, .inr (10, [.ref a_K_bytes, .ref a_K_keyNames, .int (nI v_K_size), .int (nI v_K_length), .int (nI y1), .int (nI v_K_kind), .int (nI y1), .int (nI v_K_number), .long v_K_name, .int v_K_key])), (a_K_bytes, .inl (K 0, 1000, .inl f_K_bytes)), (a_K_keyNames, .inl (K 2, 13, .inr (.inl f_K_keyNames)))]) B inlX10 tyX10_ok nmX10 hP hD hS 0 rfl rfl 6 rfl mfl_X10_32 rfl rfl rfl rfl rfl rfl dX10_advance_57 (fun H locs hP hD hS => ?_)
        refine lv_pc (q := 60) rfl ?_
        refine lv_aload_n hx hb dX10_advance_60 rfl (lv_at hl 0 rfl) ?_
        refine lv_iconst (v := (-1)) hx hb dX10_advance_61 (by decide) ?_
        refine uPut (ci := 10) (C := RX10) (T := TX10) (N := 10) (ws' := [(a_K, .inr (10, [.ref a_K_bytes, .ref a_K_keyNames, .int (nI v_K_size), .int (nI v_K_length), .int (nI y1), .int (nI v_K_kind), .int (nI y1), .int (nI v_K_number), .long v_K_name, .int (-1)])), (a_K_bytes, .inl (K 0, 1000, .inl f_K_bytes)), (a_K_keyNames, .inl (K 2, 13, .inr (.inl f_K_keyNames)))]) B inlX10 tyX10_ok nmX10 hP hD hS 0 rfl rfl 9 rfl mfl_X10_42 rfl rfl rfl rfl rfl rfl dX10_advance_62 (fun H locs hP hD hS => ?_)
        refine lv_aload_n hx hb dX10_advance_65 rfl (lv_at hl 0 rfl) ?_
        refine uGet (ci := 10) (C := RX10) (T := TX10) (N := 10) (v := .int (nI y1)) B inlX10 hP 0 rfl rfl 4 rfl mfl_X10_26 rfl rfl dX10_advance_66 ?_
        refine lv_aload_n hx hb dX10_advance_69 rfl (lv_at hl 0 rfl) ?_
        refine lv_pc (q := 70) rfl ?_
        refine uGet (ci := 10) (C := RX10) (T := TX10) (N := 10) (v := .int (nI v_K_length)) B inlX10 hP 0 rfl rfl 3 rfl mfl_X10_23 rfl rfl dX10_advance_70 ?_
        refine lv_icmp_lt (tgt := 84) hx hb dX10_advance_73 (by decide) (fun c49 => ?_) (fun c49 => ?_)
        · have k_49 : y1 < v_K_length := (nI_ltI (a := y1) (b := v_K_length) (by omega) (by omega)).mp c49
          refine lv_aload_n hx hb dX10_advance_84 rfl (lv_at hl 0 rfl) ?_
          refine uGet (ci := 10) (C := RX10) (T := TX10) (N := 10) (v := .ref a_K_bytes) B inlX10 hP 0 rfl rfl 0 rfl mfl_X10_9 rfl rfl dX10_advance_85 ?_
          refine lv_aload_n hx hb dX10_advance_88 rfl (lv_at hl 0 rfl) ?_
          refine uGet (ci := 10) (C := RX10) (T := TX10) (N := 10) (v := .int (nI y1)) B inlX10 hP 0 rfl rfl 4 rfl mfl_X10_26 rfl rfl dX10_advance_89 ?_
          refine lv_pc (q := 92) rfl ?_
          refine uIald (i := (nI y1)) (j := y1) B hP 1 rfl (nI_in (by omega) (by omega)) (nI_clamp (by omega)) dX10_advance_92 ?_
          refine lv_fixi (y := (nI a45)) ea45 ?_
          refine uSi (As := [.int (nI a45)]) (rest := []) (wr := [(a_K, .inr (10, [.ref a_K_bytes, .ref a_K_keyNames, .int (nI v_K_size), .int (nI v_K_length), .int (nI y1), .int (nI v_K_kind), .int (nI y1), .int (nI v_K_number), .long v_K_name, .int (-1)])), (a_K_bytes, .inl (K 0, 1000, .inl f_K_bytes)), (a_K_keyNames, .inl (K 2, 13, .inr (.inl f_K_keyNames)))]) [] B hl.1 hP hD hS [] [0, 1, 2] rfl rfl rfl (wX10_isLetter_vc l D K _ a45 (by omega)) wd_X10_isLetter mml_X10_65 rfl rfl ⟨Nat.le_of_ble_eq_true rfl, Nat.le_of_ble_eq_true rfl⟩ (Nat.le_of_ble_eq_true rfl) ⟨Nat.le_of_ble_eq_true rfl, Nat.le_of_ble_eq_true rfl⟩ dX10_advance_93 (fun r50 u H locs hw hP hD hS => ?_)
          try dsimp only at hw
          have w51 := hw
          have hP : va_P D vwCl [(a_K, .inr (10, [.ref a_K_bytes, .ref a_K_keyNames, .int (nI v_K_size), .int (nI v_K_length), .int (nI y1), .int (nI v_K_kind), .int (nI y1), .int (nI v_K_number), .long v_K_name, .int (-1)])), (a_K_bytes, .inl (K 0, 1000, .inl f_K_bytes)), (a_K_keyNames, .inl (K 2, 13, .inr (.inl f_K_keyNames)))] H := hP
          have hD := uDPJ hP hD
          rcases w51 with ⟨rfl, w52⟩ | ⟨rfl, w53⟩
          · refine lv_if_eq (tgt := 106) hx hb dX10_advance_96 (by decide) (fun _ => ?_) (fun h9 => absurd (by decide) h9)
            refine lv_aload_n hx hb dX10_advance_106 rfl (lv_at hl 0 rfl) ?_
            refine uGet (ci := 10) (C := RX10) (T := TX10) (N := 10) (v := .ref a_K_bytes) B inlX10 hP 0 rfl rfl 0 rfl mfl_X10_9 rfl rfl dX10_advance_107 ?_
            refine lv_aload_n hx hb dX10_advance_110 rfl (lv_at hl 0 rfl) ?_
            refine lv_pc (q := 111) rfl ?_
            refine uGet (ci := 10) (C := RX10) (T := TX10) (N := 10) (v := .int (nI y1)) B inlX10 hP 0 rfl rfl 4 rfl mfl_X10_26 rfl rfl dX10_advance_111 ?_
            refine uIald (i := (nI y1)) (j := y1) B hP 1 rfl (nI_in (by omega) (by omega)) (nI_clamp (by omega)) dX10_advance_114 ?_
            refine lv_fixi (y := (nI a45)) ea45 ?_
            refine uSi (As := [.int (nI a45)]) (rest := []) (wr := [(a_K, .inr (10, [.ref a_K_bytes, .ref a_K_keyNames, .int (nI v_K_size), .int (nI v_K_length), .int (nI y1), .int (nI v_K_kind), .int (nI y1), .int (nI v_K_number), .long v_K_name, .int (-1)])), (a_K_bytes, .inl (K 0, 1000, .inl f_K_bytes)), (a_K_keyNames, .inl (K 2, 13, .inr (.inl f_K_keyNames)))]) [] B hl.1 hP hD hS [] [0, 1, 2] rfl rfl rfl (wX10_isDigit_vc l D K _ a45 (by omega)) wd_X10_isDigit mml_X10_72 rfl rfl ⟨Nat.le_of_ble_eq_true rfl, Nat.le_of_ble_eq_true rfl⟩ (Nat.le_of_ble_eq_true rfl) ⟨Nat.le_of_ble_eq_true rfl, Nat.le_of_ble_eq_true rfl⟩ dX10_advance_115 (fun r54 u H locs hw hP hD hS => ?_)
            try dsimp only at hw
            have w55 := hw
            have hP : va_P D vwCl [(a_K, .inr (10, [.ref a_K_bytes, .ref a_K_keyNames, .int (nI v_K_size), .int (nI v_K_length), .int (nI y1), .int (nI v_K_kind), .int (nI y1), .int (nI v_K_number), .long v_K_name, .int (-1)])), (a_K_bytes, .inl (K 0, 1000, .inl f_K_bytes)), (a_K_keyNames, .inl (K 2, 13, .inr (.inl f_K_keyNames)))] H := hP
            have hD := uDPJ hP hD
            rcases w55 with ⟨rfl, w56⟩ | ⟨rfl, w57⟩
            · refine lv_if_eq (tgt := 128) hx hb dX10_advance_118 (by decide) (fun _ => ?_) (fun h9 => absurd (by decide) h9)
              refine lv_aload_n hx hb dX10_advance_128 rfl (lv_at hl 0 rfl) ?_
              refine uVvJ (As := []) (rest := []) (wr := [(a_K_keyNames, .inl (K 2, 13, .inr (.inl f_K_keyNames)))]) (wX10_takeMark_vc l D K _ a_K v_K_size v_K_length y1 v_K_kind y1 v_K_number v_K_name (-1) a_K_bytes f_K_bytes a_K_keyNames (by omega) (by omega) (by omega) (by omega) (by omega) (by omega) r_K_bytes (by omega)) B hl.1 hP hD hS [0, 1] [2] rfl rfl rfl wd_X10_takeMark mml_X10_78 rfl rfl rfl rfl ⟨Nat.le_of_ble_eq_true rfl, Nat.le_of_ble_eq_true rfl⟩ (Nat.le_of_ble_eq_true rfl) ⟨Nat.le_of_ble_eq_true rfl, Nat.le_of_ble_eq_true rfl⟩ dX10_advance_129 (fun u H locs hw hP hD hS => ?_)
              obtain ⟨u59, u60⟩ := u
              try dsimp only at hw
              obtain ⟨w61, w62, w63, w64⟩ := hw
              replace w61 : u59 ≤ 1000 := w61
              replace w62 : u60 ≤ 5 := w62
              replace w63 : u59 = y1 + 1 := w63
              replace w64 : urMq (f_K_bytes y1) u60 := w64
              have hP : va_P D vwCl [(a_K_keyNames, .inl (K 2, 13, .inr (.inl f_K_keyNames))), (a_K, .inr (10, [.ref a_K_bytes, .ref a_K_keyNames, .int (nI v_K_size), .int (nI v_K_length), .int (nI u59), .int (nI u60), .int (nI y1), .int (nI v_K_number), .long v_K_name, .int (-1)])), (a_K_bytes, .inl (K 0, 1000, .inl f_K_bytes))] H := hP
              have hD := uDPJ hP hD
              refine lv_pc (q := 132) rfl ?_
              exact uRv (u59, u60, y1, v_K_number, v_K_name, (-1)) B ⟨(by (try dsimp only); omega), (by (try dsimp only); omega), (by (try dsimp only); omega), (by (try dsimp only); omega), (urTkM (by omega) (urLtN ea45 (by omega) w52) (urDgN ea45 (by omega) w56) w63 w64), hk48⟩ (uSub hP [1, 2, 0] rfl) (hD.sub [1, 2, 0] rfl rfl) hS dX10_advance_132
            refine lv_if_eq (tgt := 128) hx hb dX10_advance_118 (by decide) (fun h9 => absurd h9 (by decide)) (fun _ => ?_)
            refine lv_aload_n hx hb dX10_advance_121 rfl (lv_at hl 0 rfl) ?_
            refine uVvJ (As := []) (rest := []) (wr := [(a_K_keyNames, .inl (K 2, 13, .inr (.inl f_K_keyNames)))]) (wX10_takeNumber_vc l D K _ a_K v_K_size v_K_length y1 v_K_kind y1 v_K_number v_K_name (-1) a_K_bytes f_K_bytes a_K_keyNames (by omega) (by omega) (by omega) (by omega) (by omega) (by omega) r_K_bytes (by omega)) B hl.1 hP hD hS [0, 1] [2] rfl rfl rfl wd_X10_takeNumber mml_X10_75 rfl rfl rfl rfl ⟨Nat.le_of_ble_eq_true rfl, Nat.le_of_ble_eq_true rfl⟩ (Nat.le_of_ble_eq_true rfl) ⟨Nat.le_of_ble_eq_true rfl, Nat.le_of_ble_eq_true rfl⟩ dX10_advance_122 (fun u H locs hw hP hD hS => ?_)
            obtain ⟨u66, u67, u68⟩ := u
            try dsimp only at hw
            obtain ⟨w69, w70, w71, w72, w73, w74⟩ := hw
            replace w69 : u66 ≤ 1000 := w69
            replace w70 : u67 ≤ 5 := w70
            replace w71 : u68 ≤ 1000 := w71
            replace w72 : u66 = urTo (urDg f_K_bytes) v_K_length y1 := w72
            replace w73 : u68 = urNb f_K_bytes y1 (u66 - y1) := w73
            replace w74 : u67 = 2 := w74
            have hP : va_P D vwCl [(a_K_keyNames, .inl (K 2, 13, .inr (.inl f_K_keyNames))), (a_K, .inr (10, [.ref a_K_bytes, .ref a_K_keyNames, .int (nI v_K_size), .int (nI v_K_length), .int (nI u66), .int (nI u67), .int (nI y1), .int (nI u68), .long v_K_name, .int (-1)])), (a_K_bytes, .inl (K 0, 1000, .inl f_K_bytes))] H := hP
            have hD := uDPJ hP hD
            refine lv_pc (q := 125) rfl ?_
            refine lv_goto (tgt := 132) hx hb dX10_advance_125 (by decide) ?_
            exact uRv (u66, u67, y1, u68, v_K_name, (-1)) B ⟨(by (try dsimp only); omega), (by (try dsimp only); omega), (by (try dsimp only); omega), (by (try dsimp only); omega), (urTkD (by omega) (urLtN ea45 (by omega) w52) (urDgY ea45 w57) w72 w74 w73), hk48⟩ (uSub hP [1, 2, 0] rfl) (hD.sub [1, 2, 0] rfl rfl) hS dX10_advance_132
          refine lv_if_eq (tgt := 106) hx hb dX10_advance_96 (by decide) (fun h9 => absurd h9 (by decide)) (fun _ => ?_)
          refine lv_aload_n hx hb dX10_advance_99 rfl (lv_at hl 0 rfl) ?_
          refine uVvJ (As := []) (rest := []) (wr := []) (wX10_takeName_vc l D K _ a_K v_K_size v_K_length y1 v_K_kind y1 v_K_number v_K_name (-1) a_K_bytes f_K_bytes a_K_keyNames f_K_keyNames (by omega) (by omega) (by omega) (by omega) (by omega) (by omega) r_K_bytes (by omega) (by omega)) B hl.1 hP hD hS [0, 1, 2] [] rfl rfl rfl wd_X10_takeName mml_X10_69 rfl rfl rfl rfl ⟨Nat.le_of_ble_eq_true rfl, Nat.le_of_ble_eq_true rfl⟩ (Nat.le_of_ble_eq_true rfl) ⟨Nat.le_of_ble_eq_true rfl, Nat.le_of_ble_eq_true rfl⟩ dX10_advance_100 (fun u H locs hw hP hD hS => ?_)
          obtain ⟨u76, u77, u78, u79⟩ := u
          try dsimp only at hw
          obtain ⟨w80, w81, w82, w83⟩ := hw
          replace w80 : u76 ≤ 1000 := w80
          replace w81 : u77 ≤ 5 := w81
          replace w82 : u76 = urTo (urLt f_K_bytes) v_K_length y1 := w82
          replace w83 : urNk f_K_keyNames f_K_bytes y1 u76 u77 u78 u79 (-1) := w83
          have hP : va_P D vwCl [(a_K, .inr (10, [.ref a_K_bytes, .ref a_K_keyNames, .int (nI v_K_size), .int (nI v_K_length), .int (nI u76), .int (nI u77), .int (nI y1), .int (nI v_K_number), .long u78, .int u79])), (a_K_bytes, .inl (K 0, 1000, .inl f_K_bytes)), (a_K_keyNames, .inl (K 2, 13, .inr (.inl f_K_keyNames)))] H := hP
          have hD := uDPJ hP hD
          refine lv_goto (tgt := 132) hx hb dX10_advance_103 (by decide) ?_
          refine lv_pc (q := 132) rfl ?_
          exact uRv (u76, u77, y1, v_K_number, u78, u79) B ⟨(by (try dsimp only); omega), (by (try dsimp only); omega), (by (try dsimp only); omega), (by (try dsimp only); omega), (urTkN i_urKN (by omega) (urLtY ea45 w53) w82 w83), hk48⟩ (uSub hP [0, 1, 2] rfl) (hD.sub [0, 1, 2] rfl rfl) hS dX10_advance_132
        have k_49 : ¬ y1 < v_K_length := fun h9 => c49 ((nI_ltI (a := y1) (b := v_K_length) (by omega) (by omega)).mpr h9)
        refine lv_aload_n hx hb dX10_advance_76 rfl (lv_at hl 0 rfl) ?_
        refine lv_iconst (v := 0) hx hb dX10_advance_77 (by decide) ?_
        refine uPut (ci := 10) (C := RX10) (T := TX10) (N := 10) (ws' := [(a_K, .inr (10, [.ref a_K_bytes, .ref a_K_keyNames, .int (nI v_K_size), .int (nI v_K_length), .int (nI y1), .int 0, .int (nI y1), .int (nI v_K_number), .long v_K_name, .int (-1)])), (a_K_bytes, .inl (K 0, 1000, .inl f_K_bytes)), (a_K_keyNames, .inl (K 2, 13, .inr (.inl f_K_keyNames)))]) B inlX10 tyX10_ok nmX10 hP hD hS 0 rfl rfl 5 rfl mfl_X10_29 rfl rfl rfl rfl rfl rfl dX10_advance_78 (fun H locs hP hD hS => ?_)
        refine lv_goto (tgt := 132) hx hb dX10_advance_81 (by decide) ?_
        refine lv_pc (q := 132) rfl ?_
        exact uRv (y1, 0, y1, v_K_number, v_K_name, (-1)) B ⟨(by (try dsimp only); omega), (by (try dsimp only); omega), (by (try dsimp only); omega), (by (try dsimp only); omega), (urTkE (by omega)), hk48⟩ (uSub hP [0, 1, 2] rfl) (hD.sub [0, 1, 2] rfl rfl) hS dX10_advance_132
      have k_47 : a45 = 10 := (nI_eq (a := a45) (b := 10) (by omega) (by omega)).mp c47
      refine lv_aload_n hx hb dX10_advance_39 rfl (lv_at hl 0 rfl) ?_
      refine lv_dup hx hb dX10_advance_40 rfl ?_
      refine uGet (ci := 10) (C := RX10) (T := TX10) (N := 10) (v := .int (nI y1)) B inlX10 hP 0 rfl rfl 4 rfl mfl_X10_26 rfl rfl dX10_advance_41 ?_
      refine lv_iconst (v := 1) hx hb dX10_advance_44 (by decide) ?_
      refine lv_pc (q := 45) rfl ?_
      refine lv_iadd hx hb dX10_advance_45 ?_
      refine lv_fixi (y := (nI (y1 + 1))) (by rw [show (1 : Int32) = nI 1 from rfl, nI_add]) ?_
      refine uPut (ci := 10) (C := RX10) (T := TX10) (N := 10) (ws' := [(a_K, .inr (10, [.ref a_K_bytes, .ref a_K_keyNames, .int (nI v_K_size), .int (nI v_K_length), .int (nI (y1 + 1)), .int (nI v_K_kind), .int (nI v_K_place), .int (nI v_K_number), .long v_K_name, .int v_K_key])), (a_K_bytes, .inl (K 0, 1000, .inl f_K_bytes)), (a_K_keyNames, .inl (K 2, 13, .inr (.inl f_K_keyNames)))]) B inlX10 tyX10_ok nmX10 hP hD hS 0 rfl rfl 4 rfl mfl_X10_26 rfl rfl rfl rfl rfl rfl dX10_advance_46 (fun H locs hP hD hS => ?_)
      refine lv_goto (tgt := 0) hx hb dX10_advance_49 (by decide) ?_
      refine lv_pc (q := 0) rfl ?_
      refine W.widen (k := 0) (n := 0) (Nat.le_of_ble_eq_true rfl) (Nat.le_of_ble_eq_true rfl) ?_
      exact ih0 (y1 + 1) (by omega) (by omega) (by omega) (urSpS xs_4 (urBlY ea45 (by omega))) (by omega) _ _ _ (uSub hP [0, 1, 2] rfl) (hD.sub [0, 1, 2] rfl rfl) hS (lv_sub hl [0] rfl)
  refine lv_pc (q := 0) rfl ?_
  refine W.widen (k := 0) (n := 0) (Nat.le_of_ble_eq_true rfl) (Nat.le_of_ble_eq_true rfl) ?_
  exact L6 ((v_K_length - v_K_next) + 1) v_K_next (by omega) (by omega) (by omega) urSp0 (Nat.lt_succ_self _) _ _ _ hP hD hS hl
def qwX10_advance_vd (a_K : Nat) (v_K_size : Nat) (v_K_length : Nat) (v_K_next : Nat) (v_K_kind : Nat) (v_K_place : Nat) (v_K_number : Nat) (v_K_name : Int64) (v_K_key : Int32) (a_K_bytes : Nat) (f_K_bytes : Nat → Int32) (a_K_keyNames : Nat) (f_K_keyNames : Nat → Int64) : (Nat × Nat × Nat × Nat × Int64 × Int32) → Prop := (fun (u : Nat × Nat × Nat × Nat × Int64 × Int32) => (u.1 ≤ 1000) ∧ (u.2.1 ≤ 5) ∧ (u.2.2.1 ≤ 1000) ∧ (u.2.2.2.1 ≤ 1000) ∧ (urTk f_K_bytes v_K_length u.2.2.1 u.1 u.2.1 u.2.2.2.1 u.2.2.2.2.1 u.2.2.2.2.2) ∧ (u.2.2.1 = urAd f_K_bytes v_K_length v_K_place))
def vwX10_advance_vd (K : Nat → ClassId) (a_K : Nat) (v_K_size : Nat) (v_K_length : Nat) (v_K_next : Nat) (v_K_kind : Nat) (v_K_place : Nat) (v_K_number : Nat) (v_K_name : Int64) (v_K_key : Int32) (a_K_bytes : Nat) (f_K_bytes : Nat → Int32) (a_K_keyNames : Nat) (f_K_keyNames : Nat → Int64) : (Nat × Nat × Nat × Nat × Int64 × Int32) → va_W := (fun (u : Nat × Nat × Nat × Nat × Int64 × Int32) => [(a_K, .inr (10, [.ref a_K_bytes, .ref a_K_keyNames, .int (nI v_K_size), .int (nI v_K_length), .int (nI ((u.1))), .int (nI ((u.2.1))), .int (nI ((u.2.2.1))), .int (nI ((u.2.2.2.1))), .long u.2.2.2.2.1, .int u.2.2.2.2.2])), (a_K_bytes, .inl (K 0, 1000, .inl f_K_bytes)), (a_K_keyNames, .inl (K 2, 13, .inr (.inl f_K_keyNames)))])
set_option maxHeartbeats 4000000 in
set_option maxRecDepth 100000 in
theorem wX10_advance_vd (l : Launch) (D : va_G) (K : Nat → ClassId) (sz : Nat) (a_K : Nat) (v_K_size : Nat) (v_K_length : Nat) (v_K_next : Nat) (v_K_kind : Nat) (v_K_place : Nat) (v_K_number : Nat) (v_K_name : Int64) (v_K_key : Int32) (a_K_bytes : Nat) (f_K_bytes : Nat → Int32) (a_K_keyNames : Nat) (f_K_keyNames : Nat → Int64) (hv_K_size : v_K_size ≤ 1000) (hv_K_length : v_K_length ≤ 1000) (hv_K_next : v_K_next ≤ 1000) (hv_K_kind : v_K_kind ≤ 5) (hv_K_place : v_K_place ≤ 1000) (hv_K_number : v_K_number ≤ 1000) (r_K_bytes : uRg f_K_bytes 0 255) (i_urKN : urKn f_K_keyNames) (i_urTK : urTk f_K_bytes v_K_length v_K_place v_K_next v_K_kind v_K_number v_K_name v_K_key) : uMv l yX10_advance cX10_advance 1 { frames := 2, cells := 0, slots := 0, locals := 43 } [.ref a_K] D K [(a_K, .inr (10, [.ref a_K_bytes, .ref a_K_keyNames, .int (nI v_K_size), .int (nI v_K_length), .int (nI v_K_next), .int (nI v_K_kind), .int (nI v_K_place), .int (nI v_K_number), .long v_K_name, .int v_K_key])), (a_K_bytes, .inl (K 0, 1000, .inl f_K_bytes)), (a_K_keyNames, .inl (K 2, 13, .inr (.inl f_K_keyNames)))] sz (qwX10_advance_vd a_K v_K_size v_K_length v_K_next v_K_kind v_K_place v_K_number v_K_name v_K_key a_K_bytes f_K_bytes a_K_keyNames f_K_keyNames) (vwX10_advance_vd K a_K v_K_size v_K_length v_K_next v_K_kind v_K_place v_K_number v_K_name v_K_key a_K_bytes f_K_bytes a_K_keyNames f_K_keyNames) := by
  refine uMet (Qc := uQv D (qwX10_advance_vd a_K v_K_size v_K_length v_K_next v_K_kind v_K_place v_K_number v_K_name v_K_key a_K_bytes f_K_bytes a_K_keyNames f_K_keyNames) (vwX10_advance_vd K a_K v_K_size v_K_length v_K_next v_K_kind v_K_place v_K_number v_K_name v_K_key a_K_bytes f_K_bytes a_K_keyNames f_K_keyNames)) (ret := none) (by decide) (Nat.le_of_ble_eq_true rfl) ?_
  intro p e s m below meth c A ls hAe hsz B hP hD hS hl
  have hx := B.1
  have hb := B.2.1
  have hl : lv_has ls 1 [(0, .ref a_K)] := hl
  have L6 : ∀ (n9 : Nat) (y1 : Nat), (y1 ≤ 1000) → (v_K_next ≤ y1) → (y1 ≤ v_K_length ∨ y1 = v_K_next) → (urSp (urBl f_K_bytes) v_K_next y1) → v_K_length - y1 < n9 → ∀ (H : Heap) (locs : List Loc) (ls : Array Slot), va_P D vwCl [(a_K, .inr (10, [.ref a_K_bytes, .ref a_K_keyNames, .int (nI v_K_size), .int (nI v_K_length), .int (nI y1), .int (nI v_K_kind), .int (nI v_K_place), .int (nI v_K_number), .long v_K_name, .int v_K_key])), (a_K_bytes, .inl (K 0, 1000, .inl f_K_bytes)), (a_K_keyNames, .inl (K 2, 13, .inr (.inl f_K_keyNames)))] H → va_D A [(a_K, .inr (10, [.ref a_K_bytes, .ref a_K_keyNames, .int (nI v_K_size), .int (nI v_K_length), .int (nI y1), .int (nI v_K_kind), .int (nI v_K_place), .int (nI v_K_number), .long v_K_name, .int v_K_key])), (a_K_bytes, .inl (K 0, 1000, .inl f_K_bytes)), (a_K_keyNames, .inl (K 2, 13, .inr (.inl f_K_keyNames)))] → va_S A s.heap H locs → lv_has ls 1 [(0, .ref a_K)] → W p l e { frames := 2, cells := 0, slots := 0, locals := 43 } s m ([.ref a_K] : List Value).toArray below meth c H locs 0 0 (MQ below (uQv D (qwX10_advance_vd a_K v_K_size v_K_length v_K_next v_K_kind v_K_place v_K_number v_K_name v_K_key a_K_bytes f_K_bytes a_K_keyNames f_K_keyNames) (vwX10_advance_vd K a_K v_K_size v_K_length v_K_next v_K_kind v_K_place v_K_number v_K_name v_K_key a_K_bytes f_K_bytes a_K_keyNames f_K_keyNames) A) ([.ref a_K] : List Value).toArray s 0 0 A) (F0 m 0 ls []) := by
    intro n9
    induction n9 with
    | zero => intros; exact absurd ‹_ < 0› (Nat.not_lt_zero _)
    | succ n0_ ih0 =>
      intro y1 hy1 xa_2 xb_3 xs_4 hm0 H locs ls hP hD hS hl
      refine lv_aload_n hx hb dX10_advance_0 rfl (lv_at hl 0 rfl) ?_
      refine uGet (ci := 10) (C := RX10) (T := TX10) (N := 10) (v := .int (nI y1)) B inlX10 hP 0 rfl rfl 4 rfl mfl_X10_26 rfl rfl dX10_advance_1 ?_
      refine lv_aload_n hx hb dX10_advance_4 rfl (lv_at hl 0 rfl) ?_
      refine uGet (ci := 10) (C := RX10) (T := TX10) (N := 10) (v := .int (nI v_K_length)) B inlX10 hP 0 rfl rfl 3 rfl mfl_X10_23 rfl rfl dX10_advance_5 ?_
      refine lv_icmp_ge (tgt := 52) hx hb dX10_advance_8 (by decide) (fun c7 => ?_) (fun c7 => ?_)
      · have k_7 : v_K_length ≤ y1 := (nI_leI (a := v_K_length) (b := y1) (by omega) (by omega)).mp c7
        refine lv_pc (q := 52) rfl ?_
        have hk8 : y1 = urTo (urBl f_K_bytes) v_K_length v_K_next := urToE1 (by omega) (by omega) xs_4 (by omega)
        refine lv_aload_n hx hb dX10_advance_52 rfl (lv_at hl 0 rfl) ?_
        refine lv_aload_n hx hb dX10_advance_53 rfl (lv_at hl 0 rfl) ?_
        refine uGet (ci := 10) (C := RX10) (T := TX10) (N := 10) (v := .int (nI y1)) B inlX10 hP 0 rfl rfl 4 rfl mfl_X10_26 rfl rfl dX10_advance_54 ?_
        refine uPut (ci := 10) (C := RX10) (T := TX10) (N := 10) (ws' := [(a_K, .inr (10, [.ref a_K_bytes, .ref a_K_keyNames, .int (nI v_K_size), .int (nI v_K_length), .int (nI y1), .int (nI v_K_kind), .int (nI y1), .int (nI v_K_number), .long v_K_name, .int v_K_key])), (a_K_bytes, .inl (K 0, 1000, .inl f_K_bytes)), (a_K_keyNames, .inl (K 2, 13, .inr (.inl f_K_keyNames)))]) B inlX10 tyX10_ok nmX10 hP hD hS 0 rfl rfl 6 rfl mfl_X10_32 rfl rfl rfl rfl rfl rfl dX10_advance_57 (fun H locs hP hD hS => ?_)
        refine lv_aload_n hx hb dX10_advance_60 rfl (lv_at hl 0 rfl) ?_
        refine lv_iconst (v := (-1)) hx hb dX10_advance_61 (by decide) ?_
        refine lv_pc (q := 62) rfl ?_
        refine uPut (ci := 10) (C := RX10) (T := TX10) (N := 10) (ws' := [(a_K, .inr (10, [.ref a_K_bytes, .ref a_K_keyNames, .int (nI v_K_size), .int (nI v_K_length), .int (nI y1), .int (nI v_K_kind), .int (nI y1), .int (nI v_K_number), .long v_K_name, .int (-1)])), (a_K_bytes, .inl (K 0, 1000, .inl f_K_bytes)), (a_K_keyNames, .inl (K 2, 13, .inr (.inl f_K_keyNames)))]) B inlX10 tyX10_ok nmX10 hP hD hS 0 rfl rfl 9 rfl mfl_X10_42 rfl rfl rfl rfl rfl rfl dX10_advance_62 (fun H locs hP hD hS => ?_)
        refine lv_aload_n hx hb dX10_advance_65 rfl (lv_at hl 0 rfl) ?_
        refine uGet (ci := 10) (C := RX10) (T := TX10) (N := 10) (v := .int (nI y1)) B inlX10 hP 0 rfl rfl 4 rfl mfl_X10_26 rfl rfl dX10_advance_66 ?_
        refine lv_aload_n hx hb dX10_advance_69 rfl (lv_at hl 0 rfl) ?_
        refine uGet (ci := 10) (C := RX10) (T := TX10) (N := 10) (v := .int (nI v_K_length)) B inlX10 hP 0 rfl rfl 3 rfl mfl_X10_23 rfl rfl dX10_advance_70 ?_
        refine lv_icmp_lt (tgt := 84) hx hb dX10_advance_73 (by decide) (fun c9 => ?_) (fun c9 => ?_)
        · have k_9 : y1 < v_K_length := (nI_ltI (a := y1) (b := v_K_length) (by omega) (by omega)).mp c9
          refine lv_pc (q := 84) rfl ?_
          refine lv_aload_n hx hb dX10_advance_84 rfl (lv_at hl 0 rfl) ?_
          refine uGet (ci := 10) (C := RX10) (T := TX10) (N := 10) (v := .ref a_K_bytes) B inlX10 hP 0 rfl rfl 0 rfl mfl_X10_9 rfl rfl dX10_advance_85 ?_
          refine lv_aload_n hx hb dX10_advance_88 rfl (lv_at hl 0 rfl) ?_
          refine uGet (ci := 10) (C := RX10) (T := TX10) (N := 10) (v := .int (nI y1)) B inlX10 hP 0 rfl rfl 4 rfl mfl_X10_26 rfl rfl dX10_advance_89 ?_
          refine uIald (i := (nI y1)) (j := y1) B hP 1 rfl (nI_in (by omega) (by omega)) (nI_clamp (by omega)) dX10_advance_92 ?_
          obtain ⟨a10, ha10, ea10⟩ := uRnat r_K_bytes y1 (by decide)
          simp only [Int32.reduceToInt] at ha10
          refine lv_fixi (y := (nI a10)) ea10 ?_
          refine uSi (As := [.int (nI a10)]) (rest := []) (wr := [(a_K, .inr (10, [.ref a_K_bytes, .ref a_K_keyNames, .int (nI v_K_size), .int (nI v_K_length), .int (nI y1), .int (nI v_K_kind), .int (nI y1), .int (nI v_K_number), .long v_K_name, .int (-1)])), (a_K_bytes, .inl (K 0, 1000, .inl f_K_bytes)), (a_K_keyNames, .inl (K 2, 13, .inr (.inl f_K_keyNames)))]) [] B hl.1 hP hD hS [] [0, 1, 2] rfl rfl rfl (wX10_isLetter_vc l D K _ a10 (by omega)) wd_X10_isLetter mml_X10_65 rfl rfl ⟨Nat.le_of_ble_eq_true rfl, Nat.le_of_ble_eq_true rfl⟩ (Nat.le_of_ble_eq_true rfl) ⟨Nat.le_of_ble_eq_true rfl, Nat.le_of_ble_eq_true rfl⟩ dX10_advance_93 (fun r11 u H locs hw hP hD hS => ?_)
          try dsimp only at hw
          have w12 := hw
          have hP : va_P D vwCl [(a_K, .inr (10, [.ref a_K_bytes, .ref a_K_keyNames, .int (nI v_K_size), .int (nI v_K_length), .int (nI y1), .int (nI v_K_kind), .int (nI y1), .int (nI v_K_number), .long v_K_name, .int (-1)])), (a_K_bytes, .inl (K 0, 1000, .inl f_K_bytes)), (a_K_keyNames, .inl (K 2, 13, .inr (.inl f_K_keyNames)))] H := hP
          have hD := uDPJ hP hD
          rcases w12 with ⟨rfl, w13⟩ | ⟨rfl, w14⟩
          · refine lv_pc (q := 96) rfl ?_
            refine lv_if_eq (tgt := 106) hx hb dX10_advance_96 (by decide) (fun _ => ?_) (fun h9 => absurd (by decide) h9)
            refine lv_aload_n hx hb dX10_advance_106 rfl (lv_at hl 0 rfl) ?_
            refine uGet (ci := 10) (C := RX10) (T := TX10) (N := 10) (v := .ref a_K_bytes) B inlX10 hP 0 rfl rfl 0 rfl mfl_X10_9 rfl rfl dX10_advance_107 ?_
            refine lv_aload_n hx hb dX10_advance_110 rfl (lv_at hl 0 rfl) ?_
            refine uGet (ci := 10) (C := RX10) (T := TX10) (N := 10) (v := .int (nI y1)) B inlX10 hP 0 rfl rfl 4 rfl mfl_X10_26 rfl rfl dX10_advance_111 ?_
            refine uIald (i := (nI y1)) (j := y1) B hP 1 rfl (nI_in (by omega) (by omega)) (nI_clamp (by omega)) dX10_advance_114 ?_
            refine lv_fixi (y := (nI a10)) ea10 ?_
            refine lv_pc (q := 115) rfl ?_
            refine uSi (As := [.int (nI a10)]) (rest := []) (wr := [(a_K, .inr (10, [.ref a_K_bytes, .ref a_K_keyNames, .int (nI v_K_size), .int (nI v_K_length), .int (nI y1), .int (nI v_K_kind), .int (nI y1), .int (nI v_K_number), .long v_K_name, .int (-1)])), (a_K_bytes, .inl (K 0, 1000, .inl f_K_bytes)), (a_K_keyNames, .inl (K 2, 13, .inr (.inl f_K_keyNames)))]) [] B hl.1 hP hD hS [] [0, 1, 2] rfl rfl rfl (wX10_isDigit_vc l D K _ a10 (by omega)) wd_X10_isDigit mml_X10_72 rfl rfl ⟨Nat.le_of_ble_eq_true rfl, Nat.le_of_ble_eq_true rfl⟩ (Nat.le_of_ble_eq_true rfl) ⟨Nat.le_of_ble_eq_true rfl, Nat.le_of_ble_eq_true rfl⟩ dX10_advance_115 (fun r15 u H locs hw hP hD hS => ?_)
            try dsimp only at hw
            have w16 := hw
            have hP : va_P D vwCl [(a_K, .inr (10, [.ref a_K_bytes, .ref a_K_keyNames, .int (nI v_K_size), .int (nI v_K_length), .int (nI y1), .int (nI v_K_kind), .int (nI y1), .int (nI v_K_number), .long v_K_name, .int (-1)])), (a_K_bytes, .inl (K 0, 1000, .inl f_K_bytes)), (a_K_keyNames, .inl (K 2, 13, .inr (.inl f_K_keyNames)))] H := hP
            have hD := uDPJ hP hD
            rcases w16 with ⟨rfl, w17⟩ | ⟨rfl, w18⟩
            · refine lv_if_eq (tgt := 128) hx hb dX10_advance_118 (by decide) (fun _ => ?_) (fun h9 => absurd (by decide) h9)
              refine lv_aload_n hx hb dX10_advance_128 rfl (lv_at hl 0 rfl) ?_
              refine uVvJ (As := []) (rest := []) (wr := [(a_K_keyNames, .inl (K 2, 13, .inr (.inl f_K_keyNames)))]) (wX10_takeMark_vc l D K _ a_K v_K_size v_K_length y1 v_K_kind y1 v_K_number v_K_name (-1) a_K_bytes f_K_bytes a_K_keyNames (by omega) (by omega) (by omega) (by omega) (by omega) (by omega) r_K_bytes (by omega)) B hl.1 hP hD hS [0, 1] [2] rfl rfl rfl wd_X10_takeMark mml_X10_78 rfl rfl rfl rfl ⟨Nat.le_of_ble_eq_true rfl, Nat.le_of_ble_eq_true rfl⟩ (Nat.le_of_ble_eq_true rfl) ⟨Nat.le_of_ble_eq_true rfl, Nat.le_of_ble_eq_true rfl⟩ dX10_advance_129 (fun u H locs hw hP hD hS => ?_)
              obtain ⟨u20, u21⟩ := u
              try dsimp only at hw
              obtain ⟨w22, w23, w24, w25⟩ := hw
              replace w22 : u20 ≤ 1000 := w22
              replace w23 : u21 ≤ 5 := w23
              replace w24 : u20 = y1 + 1 := w24
              replace w25 : urMq (f_K_bytes y1) u21 := w25
              have hP : va_P D vwCl [(a_K_keyNames, .inl (K 2, 13, .inr (.inl f_K_keyNames))), (a_K, .inr (10, [.ref a_K_bytes, .ref a_K_keyNames, .int (nI v_K_size), .int (nI v_K_length), .int (nI u20), .int (nI u21), .int (nI y1), .int (nI v_K_number), .long v_K_name, .int (-1)])), (a_K_bytes, .inl (K 0, 1000, .inl f_K_bytes))] H := hP
              have hD := uDPJ hP hD
              exact uRv (u20, u21, y1, v_K_number, v_K_name, (-1)) B ⟨(by (try dsimp only); omega), (by (try dsimp only); omega), (by (try dsimp only); omega), (by (try dsimp only); omega), (urTkM (by omega) (urLtN ea10 (by omega) w13) (urDgN ea10 (by omega) w17) w24 w25), (urAdE i_urTK hk8)⟩ (uSub hP [1, 2, 0] rfl) (hD.sub [1, 2, 0] rfl rfl) hS dX10_advance_132
            refine lv_if_eq (tgt := 128) hx hb dX10_advance_118 (by decide) (fun h9 => absurd h9 (by decide)) (fun _ => ?_)
            refine lv_aload_n hx hb dX10_advance_121 rfl (lv_at hl 0 rfl) ?_
            refine uVvJ (As := []) (rest := []) (wr := [(a_K_keyNames, .inl (K 2, 13, .inr (.inl f_K_keyNames)))]) (wX10_takeNumber_vc l D K _ a_K v_K_size v_K_length y1 v_K_kind y1 v_K_number v_K_name (-1) a_K_bytes f_K_bytes a_K_keyNames (by omega) (by omega) (by omega) (by omega) (by omega) (by omega) r_K_bytes (by omega)) B hl.1 hP hD hS [0, 1] [2] rfl rfl rfl wd_X10_takeNumber mml_X10_75 rfl rfl rfl rfl ⟨Nat.le_of_ble_eq_true rfl, Nat.le_of_ble_eq_true rfl⟩ (Nat.le_of_ble_eq_true rfl) ⟨Nat.le_of_ble_eq_true rfl, Nat.le_of_ble_eq_true rfl⟩ dX10_advance_122 (fun u H locs hw hP hD hS => ?_)
            obtain ⟨u27, u28, u29⟩ := u
            try dsimp only at hw
            obtain ⟨w30, w31, w32, w33, w34, w35⟩ := hw
            replace w30 : u27 ≤ 1000 := w30
            replace w31 : u28 ≤ 5 := w31
            replace w32 : u29 ≤ 1000 := w32
            replace w33 : u27 = urTo (urDg f_K_bytes) v_K_length y1 := w33
            replace w34 : u29 = urNb f_K_bytes y1 (u27 - y1) := w34
            replace w35 : u28 = 2 := w35
            have hP : va_P D vwCl [(a_K_keyNames, .inl (K 2, 13, .inr (.inl f_K_keyNames))), (a_K, .inr (10, [.ref a_K_bytes, .ref a_K_keyNames, .int (nI v_K_size), .int (nI v_K_length), .int (nI u27), .int (nI u28), .int (nI y1), .int (nI u29), .long v_K_name, .int (-1)])), (a_K_bytes, .inl (K 0, 1000, .inl f_K_bytes))] H := hP
            have hD := uDPJ hP hD
            refine lv_goto (tgt := 132) hx hb dX10_advance_125 (by decide) ?_
            exact uRv (u27, u28, y1, u29, v_K_name, (-1)) B ⟨(by (try dsimp only); omega), (by (try dsimp only); omega), (by (try dsimp only); omega), (by (try dsimp only); omega), (urTkD (by omega) (urLtN ea10 (by omega) w13) (urDgY ea10 w18) w33 w35 w34), (urAdE i_urTK hk8)⟩ (uSub hP [1, 2, 0] rfl) (hD.sub [1, 2, 0] rfl rfl) hS dX10_advance_132
          refine lv_pc (q := 96) rfl ?_
          refine lv_if_eq (tgt := 106) hx hb dX10_advance_96 (by decide) (fun h9 => absurd h9 (by decide)) (fun _ => ?_)
          refine lv_aload_n hx hb dX10_advance_99 rfl (lv_at hl 0 rfl) ?_
          refine uVvJ (As := []) (rest := []) (wr := []) (wX10_takeName_vc l D K _ a_K v_K_size v_K_length y1 v_K_kind y1 v_K_number v_K_name (-1) a_K_bytes f_K_bytes a_K_keyNames f_K_keyNames (by omega) (by omega) (by omega) (by omega) (by omega) (by omega) r_K_bytes (by omega) (by omega)) B hl.1 hP hD hS [0, 1, 2] [] rfl rfl rfl wd_X10_takeName mml_X10_69 rfl rfl rfl rfl ⟨Nat.le_of_ble_eq_true rfl, Nat.le_of_ble_eq_true rfl⟩ (Nat.le_of_ble_eq_true rfl) ⟨Nat.le_of_ble_eq_true rfl, Nat.le_of_ble_eq_true rfl⟩ dX10_advance_100 (fun u H locs hw hP hD hS => ?_)
          obtain ⟨u37, u38, u39, u40⟩ := u
          try dsimp only at hw
          obtain ⟨w41, w42, w43, w44⟩ := hw
          replace w41 : u37 ≤ 1000 := w41
          replace w42 : u38 ≤ 5 := w42
          replace w43 : u37 = urTo (urLt f_K_bytes) v_K_length y1 := w43
          replace w44 : urNk f_K_keyNames f_K_bytes y1 u37 u38 u39 u40 (-1) := w44
          have hP : va_P D vwCl [(a_K, .inr (10, [.ref a_K_bytes, .ref a_K_keyNames, .int (nI v_K_size), .int (nI v_K_length), .int (nI u37), .int (nI u38), .int (nI y1), .int (nI v_K_number), .long u39, .int u40])), (a_K_bytes, .inl (K 0, 1000, .inl f_K_bytes)), (a_K_keyNames, .inl (K 2, 13, .inr (.inl f_K_keyNames)))] H := hP
          have hD := uDPJ hP hD
          refine lv_goto (tgt := 132) hx hb dX10_advance_103 (by decide) ?_
          exact uRv (u37, u38, y1, v_K_number, u39, u40) B ⟨(by (try dsimp only); omega), (by (try dsimp only); omega), (by (try dsimp only); omega), (by (try dsimp only); omega), (urTkN i_urKN (by omega) (urLtY ea10 w14) w43 w44), (urAdE i_urTK hk8)⟩ (uSub hP [0, 1, 2] rfl) (hD.sub [0, 1, 2] rfl rfl) hS dX10_advance_132
        have k_9 : ¬ y1 < v_K_length := fun h9 => c9 ((nI_ltI (a := y1) (b := v_K_length) (by omega) (by omega)).mpr h9)
        refine lv_pc (q := 76) rfl ?_
        refine lv_aload_n hx hb dX10_advance_76 rfl (lv_at hl 0 rfl) ?_
        refine lv_iconst (v := 0) hx hb dX10_advance_77 (by decide) ?_
        refine uPut (ci := 10) (C := RX10) (T := TX10) (N := 10) (ws' := [(a_K, .inr (10, [.ref a_K_bytes, .ref a_K_keyNames, .int (nI v_K_size), .int (nI v_K_length), .int (nI y1), .int 0, .int (nI y1), .int (nI v_K_number), .long v_K_name, .int (-1)])), (a_K_bytes, .inl (K 0, 1000, .inl f_K_bytes)), (a_K_keyNames, .inl (K 2, 13, .inr (.inl f_K_keyNames)))]) B inlX10 tyX10_ok nmX10 hP hD hS 0 rfl rfl 5 rfl mfl_X10_29 rfl rfl rfl rfl rfl rfl dX10_advance_78 (fun H locs hP hD hS => ?_)
        refine lv_goto (tgt := 132) hx hb dX10_advance_81 (by decide) ?_
        exact uRv (y1, 0, y1, v_K_number, v_K_name, (-1)) B ⟨(by (try dsimp only); omega), (by (try dsimp only); omega), (by (try dsimp only); omega), (by (try dsimp only); omega), (urTkE (by omega)), (urAdE i_urTK hk8)⟩ (uSub hP [0, 1, 2] rfl) (hD.sub [0, 1, 2] rfl rfl) hS dX10_advance_132
      have k_7 : ¬ v_K_length ≤ y1 := fun h9 => c7 ((nI_leI (a := v_K_length) (b := y1) (by omega) (by omega)).mpr h9)
      refine lv_pc (q := 11) rfl ?_
      refine lv_aload_n hx hb dX10_advance_11 rfl (lv_at hl 0 rfl) ?_
      refine uGet (ci := 10) (C := RX10) (T := TX10) (N := 10) (v := .ref a_K_bytes) B inlX10 hP 0 rfl rfl 0 rfl mfl_X10_9 rfl rfl dX10_advance_12 ?_
      refine lv_aload_n hx hb dX10_advance_15 rfl (lv_at hl 0 rfl) ?_
      refine uGet (ci := 10) (C := RX10) (T := TX10) (N := 10) (v := .int (nI y1)) B inlX10 hP 0 rfl rfl 4 rfl mfl_X10_26 rfl rfl dX10_advance_16 ?_
      refine uIald (i := (nI y1)) (j := y1) B hP 1 rfl (nI_in (by omega) (by omega)) (nI_clamp (by omega)) dX10_advance_19 ?_
      obtain ⟨a45, ha45, ea45⟩ := uRnat r_K_bytes y1 (by decide)
      simp only [Int32.reduceToInt] at ha45
      refine lv_fixi (y := (nI a45)) ea45 ?_
      refine lv_bipush (v := 32) hx hb dX10_advance_20 (by decide) ?_
      refine lv_pc (q := 22) rfl ?_
      refine lv_icmp_eq (tgt := 39) hx hb dX10_advance_22 (by decide) (fun c46 => ?_) (fun c46 => ?_)
      · have k_46 : a45 = 32 := (nI_eq (a := a45) (b := 32) (by omega) (by omega)).mp c46
        refine lv_aload_n hx hb dX10_advance_39 rfl (lv_at hl 0 rfl) ?_
        refine lv_dup hx hb dX10_advance_40 rfl ?_
        refine uGet (ci := 10) (C := RX10) (T := TX10) (N := 10) (v := .int (nI y1)) B inlX10 hP 0 rfl rfl 4 rfl mfl_X10_26 rfl rfl dX10_advance_41 ?_
        refine lv_iconst (v := 1) hx hb dX10_advance_44 (by decide) ?_
        refine lv_iadd hx hb dX10_advance_45 ?_
        refine lv_fixi (y := (nI (y1 + 1))) (by rw [show (1 : Int32) = nI 1 from rfl, nI_add]) ?_
        refine lv_pc (q := 46) rfl ?_
        refine uPut (ci := 10) (C := RX10) (T := TX10) (N := 10) (ws' := [(a_K, .inr (10, [.ref a_K_bytes, .ref a_K_keyNames, .int (nI v_K_size), .int (nI v_K_length), .int (nI (y1 + 1)), .int (nI v_K_kind), .int (nI v_K_place), .int (nI v_K_number), .long v_K_name, .int v_K_key])), (a_K_bytes, .inl (K 0, 1000, .inl f_K_bytes)), (a_K_keyNames, .inl (K 2, 13, .inr (.inl f_K_keyNames)))]) B inlX10 tyX10_ok nmX10 hP hD hS 0 rfl rfl 4 rfl mfl_X10_26 rfl rfl rfl rfl rfl rfl dX10_advance_46 (fun H locs hP hD hS => ?_)
        refine lv_goto (tgt := 0) hx hb dX10_advance_49 (by decide) ?_
        refine lv_pc (q := 0) rfl ?_
        refine W.widen (k := 0) (n := 0) (Nat.le_of_ble_eq_true rfl) (Nat.le_of_ble_eq_true rfl) ?_
        exact ih0 (y1 + 1) (by omega) (by omega) (by omega) (urSpS xs_4 (urBlY ea45 (by omega))) (by omega) _ _ _ (uSub hP [0, 1, 2] rfl) (hD.sub [0, 1, 2] rfl rfl) hS (lv_sub hl [0] rfl)
      have k_46 : ¬ a45 = 32 := fun h9 => c46 ((nI_eq (a := a45) (b := 32) (by omega) (by omega)).mpr h9)
      refine lv_aload_n hx hb dX10_advance_25 rfl (lv_at hl 0 rfl) ?_
      refine uGet (ci := 10) (C := RX10) (T := TX10) (N := 10) (v := .ref a_K_bytes) B inlX10 hP 0 rfl rfl 0 rfl mfl_X10_9 rfl rfl dX10_advance_26 ?_
      refine lv_aload_n hx hb dX10_advance_29 rfl (lv_at hl 0 rfl) ?_
      refine uGet (ci := 10) (C := RX10) (T := TX10) (N := 10) (v := .int (nI y1)) B inlX10 hP 0 rfl rfl 4 rfl mfl_X10_26 rfl rfl dX10_advance_30 ?_
      refine uIald (i := (nI y1)) (j := y1) B hP 1 rfl (nI_in (by omega) (by omega)) (nI_clamp (by omega)) dX10_advance_33 ?_
      refine lv_fixi (y := (nI a45)) ea45 ?_
      refine lv_pc (q := 34) rfl ?_
      refine lv_bipush (v := 10) hx hb dX10_advance_34 (by decide) ?_
      refine lv_icmp_ne (tgt := 52) hx hb dX10_advance_36 (by decide) (fun c47 => ?_) (fun c47 => ?_)
      · have k_47 : ¬ a45 = 10 := fun h9 => c47 ((nI_eq (a := a45) (b := 10) (by omega) (by omega)).mpr h9)
        have hk48 : y1 = urTo (urBl f_K_bytes) v_K_length v_K_next := urToE2 (by omega) (by omega) xs_4 (urBlN ea45 (by omega) (by omega) (by omega))
        refine lv_aload_n hx hb dX10_advance_52 rfl (lv_at hl 0 rfl) ?_
        refine lv_aload_n hx hb dX10_advance_53 rfl (lv_at hl 0 rfl) ?_
        refine uGet (ci := 10) (C := RX10) (T := TX10) (N := 10) (v := .int (nI y1)) B inlX10 hP 0 rfl rfl 4 rfl mfl_X10_26 rfl rfl dX10_advance_54 ?_
        refine uPut (ci := 10) (C := RX10) (T := TX10) (N := 10) (ws' := [(a_K, .inr (10, [.ref a_K_bytes, .ref a_K_keyNames, .int (nI v_K_size), .int (nI v_K_length), .int (nI y1), .int (nI v_K_kind), .int (nI y1), .int (nI v_K_number), .long v_K_name, .int v_K_key])), (a_K_bytes, .inl (K 0, 1000, .inl f_K_bytes)), (a_K_keyNames, .inl (K 2, 13, .inr (.inl f_K_keyNames)))]) B inlX10 tyX10_ok nmX10 hP hD hS 0 rfl rfl 6 rfl mfl_X10_32 rfl rfl rfl rfl rfl rfl dX10_advance_57 (fun H locs hP hD hS => ?_)
        refine lv_pc (q := 60) rfl ?_
        refine lv_aload_n hx hb dX10_advance_60 rfl (lv_at hl 0 rfl) ?_
        refine lv_iconst (v := (-1)) hx hb dX10_advance_61 (by decide) ?_
        refine uPut (ci := 10) (C := RX10) (T := TX10) (N := 10) (ws' := [(a_K, .inr (10, [.ref a_K_bytes, .ref a_K_keyNames, .int (nI v_K_size), .int (nI v_K_length), .int (nI y1), .int (nI v_K_kind), .int (nI y1), .int (nI v_K_number), .long v_K_name, .int (-1)])), (a_K_bytes, .inl (K 0, 1000, .inl f_K_bytes)), (a_K_keyNames, .inl (K 2, 13, .inr (.inl f_K_keyNames)))]) B inlX10 tyX10_ok nmX10 hP hD hS 0 rfl rfl 9 rfl mfl_X10_42 rfl rfl rfl rfl rfl rfl dX10_advance_62 (fun H locs hP hD hS => ?_)
        refine lv_aload_n hx hb dX10_advance_65 rfl (lv_at hl 0 rfl) ?_
        refine uGet (ci := 10) (C := RX10) (T := TX10) (N := 10) (v := .int (nI y1)) B inlX10 hP 0 rfl rfl 4 rfl mfl_X10_26 rfl rfl dX10_advance_66 ?_
        refine lv_aload_n hx hb dX10_advance_69 rfl (lv_at hl 0 rfl) ?_
        refine lv_pc (q := 70) rfl ?_
        refine uGet (ci := 10) (C := RX10) (T := TX10) (N := 10) (v := .int (nI v_K_length)) B inlX10 hP 0 rfl rfl 3 rfl mfl_X10_23 rfl rfl dX10_advance_70 ?_
        refine lv_icmp_lt (tgt := 84) hx hb dX10_advance_73 (by decide) (fun c49 => ?_) (fun c49 => ?_)
        · have k_49 : y1 < v_K_length := (nI_ltI (a := y1) (b := v_K_length) (by omega) (by omega)).mp c49
          refine lv_aload_n hx hb dX10_advance_84 rfl (lv_at hl 0 rfl) ?_
          refine uGet (ci := 10) (C := RX10) (T := TX10) (N := 10) (v := .ref a_K_bytes) B inlX10 hP 0 rfl rfl 0 rfl mfl_X10_9 rfl rfl dX10_advance_85 ?_
          refine lv_aload_n hx hb dX10_advance_88 rfl (lv_at hl 0 rfl) ?_
          refine uGet (ci := 10) (C := RX10) (T := TX10) (N := 10) (v := .int (nI y1)) B inlX10 hP 0 rfl rfl 4 rfl mfl_X10_26 rfl rfl dX10_advance_89 ?_
          refine lv_pc (q := 92) rfl ?_
          refine uIald (i := (nI y1)) (j := y1) B hP 1 rfl (nI_in (by omega) (by omega)) (nI_clamp (by omega)) dX10_advance_92 ?_
          refine lv_fixi (y := (nI a45)) ea45 ?_
          refine uSi (As := [.int (nI a45)]) (rest := []) (wr := [(a_K, .inr (10, [.ref a_K_bytes, .ref a_K_keyNames, .int (nI v_K_size), .int (nI v_K_length), .int (nI y1), .int (nI v_K_kind), .int (nI y1), .int (nI v_K_number), .long v_K_name, .int (-1)])), (a_K_bytes, .inl (K 0, 1000, .inl f_K_bytes)), (a_K_keyNames, .inl (K 2, 13, .inr (.inl f_K_keyNames)))]) [] B hl.1 hP hD hS [] [0, 1, 2] rfl rfl rfl (wX10_isLetter_vc l D K _ a45 (by omega)) wd_X10_isLetter mml_X10_65 rfl rfl ⟨Nat.le_of_ble_eq_true rfl, Nat.le_of_ble_eq_true rfl⟩ (Nat.le_of_ble_eq_true rfl) ⟨Nat.le_of_ble_eq_true rfl, Nat.le_of_ble_eq_true rfl⟩ dX10_advance_93 (fun r50 u H locs hw hP hD hS => ?_)
          try dsimp only at hw
          have w51 := hw
          have hP : va_P D vwCl [(a_K, .inr (10, [.ref a_K_bytes, .ref a_K_keyNames, .int (nI v_K_size), .int (nI v_K_length), .int (nI y1), .int (nI v_K_kind), .int (nI y1), .int (nI v_K_number), .long v_K_name, .int (-1)])), (a_K_bytes, .inl (K 0, 1000, .inl f_K_bytes)), (a_K_keyNames, .inl (K 2, 13, .inr (.inl f_K_keyNames)))] H := hP
          have hD := uDPJ hP hD
          rcases w51 with ⟨rfl, w52⟩ | ⟨rfl, w53⟩
          · refine lv_if_eq (tgt := 106) hx hb dX10_advance_96 (by decide) (fun _ => ?_) (fun h9 => absurd (by decide) h9)
            refine lv_aload_n hx hb dX10_advance_106 rfl (lv_at hl 0 rfl) ?_
            refine uGet (ci := 10) (C := RX10) (T := TX10) (N := 10) (v := .ref a_K_bytes) B inlX10 hP 0 rfl rfl 0 rfl mfl_X10_9 rfl rfl dX10_advance_107 ?_
            refine lv_aload_n hx hb dX10_advance_110 rfl (lv_at hl 0 rfl) ?_
            refine lv_pc (q := 111) rfl ?_
            refine uGet (ci := 10) (C := RX10) (T := TX10) (N := 10) (v := .int (nI y1)) B inlX10 hP 0 rfl rfl 4 rfl mfl_X10_26 rfl rfl dX10_advance_111 ?_
            refine uIald (i := (nI y1)) (j := y1) B hP 1 rfl (nI_in (by omega) (by omega)) (nI_clamp (by omega)) dX10_advance_114 ?_
            refine lv_fixi (y := (nI a45)) ea45 ?_
            refine uSi (As := [.int (nI a45)]) (rest := []) (wr := [(a_K, .inr (10, [.ref a_K_bytes, .ref a_K_keyNames, .int (nI v_K_size), .int (nI v_K_length), .int (nI y1), .int (nI v_K_kind), .int (nI y1), .int (nI v_K_number), .long v_K_name, .int (-1)])), (a_K_bytes, .inl (K 0, 1000, .inl f_K_bytes)), (a_K_keyNames, .inl (K 2, 13, .inr (.inl f_K_keyNames)))]) [] B hl.1 hP hD hS [] [0, 1, 2] rfl rfl rfl (wX10_isDigit_vc l D K _ a45 (by omega)) wd_X10_isDigit mml_X10_72 rfl rfl ⟨Nat.le_of_ble_eq_true rfl, Nat.le_of_ble_eq_true rfl⟩ (Nat.le_of_ble_eq_true rfl) ⟨Nat.le_of_ble_eq_true rfl, Nat.le_of_ble_eq_true rfl⟩ dX10_advance_115 (fun r54 u H locs hw hP hD hS => ?_)
            try dsimp only at hw
            have w55 := hw
            have hP : va_P D vwCl [(a_K, .inr (10, [.ref a_K_bytes, .ref a_K_keyNames, .int (nI v_K_size), .int (nI v_K_length), .int (nI y1), .int (nI v_K_kind), .int (nI y1), .int (nI v_K_number), .long v_K_name, .int (-1)])), (a_K_bytes, .inl (K 0, 1000, .inl f_K_bytes)), (a_K_keyNames, .inl (K 2, 13, .inr (.inl f_K_keyNames)))] H := hP
            have hD := uDPJ hP hD
            rcases w55 with ⟨rfl, w56⟩ | ⟨rfl, w57⟩
            · refine lv_if_eq (tgt := 128) hx hb dX10_advance_118 (by decide) (fun _ => ?_) (fun h9 => absurd (by decide) h9)
              refine lv_aload_n hx hb dX10_advance_128 rfl (lv_at hl 0 rfl) ?_
              refine uVvJ (As := []) (rest := []) (wr := [(a_K_keyNames, .inl (K 2, 13, .inr (.inl f_K_keyNames)))]) (wX10_takeMark_vc l D K _ a_K v_K_size v_K_length y1 v_K_kind y1 v_K_number v_K_name (-1) a_K_bytes f_K_bytes a_K_keyNames (by omega) (by omega) (by omega) (by omega) (by omega) (by omega) r_K_bytes (by omega)) B hl.1 hP hD hS [0, 1] [2] rfl rfl rfl wd_X10_takeMark mml_X10_78 rfl rfl rfl rfl ⟨Nat.le_of_ble_eq_true rfl, Nat.le_of_ble_eq_true rfl⟩ (Nat.le_of_ble_eq_true rfl) ⟨Nat.le_of_ble_eq_true rfl, Nat.le_of_ble_eq_true rfl⟩ dX10_advance_129 (fun u H locs hw hP hD hS => ?_)
              obtain ⟨u59, u60⟩ := u
              try dsimp only at hw
              obtain ⟨w61, w62, w63, w64⟩ := hw
              replace w61 : u59 ≤ 1000 := w61
              replace w62 : u60 ≤ 5 := w62
              replace w63 : u59 = y1 + 1 := w63
              replace w64 : urMq (f_K_bytes y1) u60 := w64
              have hP : va_P D vwCl [(a_K_keyNames, .inl (K 2, 13, .inr (.inl f_K_keyNames))), (a_K, .inr (10, [.ref a_K_bytes, .ref a_K_keyNames, .int (nI v_K_size), .int (nI v_K_length), .int (nI u59), .int (nI u60), .int (nI y1), .int (nI v_K_number), .long v_K_name, .int (-1)])), (a_K_bytes, .inl (K 0, 1000, .inl f_K_bytes))] H := hP
              have hD := uDPJ hP hD
              refine lv_pc (q := 132) rfl ?_
              exact uRv (u59, u60, y1, v_K_number, v_K_name, (-1)) B ⟨(by (try dsimp only); omega), (by (try dsimp only); omega), (by (try dsimp only); omega), (by (try dsimp only); omega), (urTkM (by omega) (urLtN ea45 (by omega) w52) (urDgN ea45 (by omega) w56) w63 w64), (urAdE i_urTK hk48)⟩ (uSub hP [1, 2, 0] rfl) (hD.sub [1, 2, 0] rfl rfl) hS dX10_advance_132
            refine lv_if_eq (tgt := 128) hx hb dX10_advance_118 (by decide) (fun h9 => absurd h9 (by decide)) (fun _ => ?_)
            refine lv_aload_n hx hb dX10_advance_121 rfl (lv_at hl 0 rfl) ?_
            refine uVvJ (As := []) (rest := []) (wr := [(a_K_keyNames, .inl (K 2, 13, .inr (.inl f_K_keyNames)))]) (wX10_takeNumber_vc l D K _ a_K v_K_size v_K_length y1 v_K_kind y1 v_K_number v_K_name (-1) a_K_bytes f_K_bytes a_K_keyNames (by omega) (by omega) (by omega) (by omega) (by omega) (by omega) r_K_bytes (by omega)) B hl.1 hP hD hS [0, 1] [2] rfl rfl rfl wd_X10_takeNumber mml_X10_75 rfl rfl rfl rfl ⟨Nat.le_of_ble_eq_true rfl, Nat.le_of_ble_eq_true rfl⟩ (Nat.le_of_ble_eq_true rfl) ⟨Nat.le_of_ble_eq_true rfl, Nat.le_of_ble_eq_true rfl⟩ dX10_advance_122 (fun u H locs hw hP hD hS => ?_)
            obtain ⟨u66, u67, u68⟩ := u
            try dsimp only at hw
            obtain ⟨w69, w70, w71, w72, w73, w74⟩ := hw
            replace w69 : u66 ≤ 1000 := w69
            replace w70 : u67 ≤ 5 := w70
            replace w71 : u68 ≤ 1000 := w71
            replace w72 : u66 = urTo (urDg f_K_bytes) v_K_length y1 := w72
            replace w73 : u68 = urNb f_K_bytes y1 (u66 - y1) := w73
            replace w74 : u67 = 2 := w74
            have hP : va_P D vwCl [(a_K_keyNames, .inl (K 2, 13, .inr (.inl f_K_keyNames))), (a_K, .inr (10, [.ref a_K_bytes, .ref a_K_keyNames, .int (nI v_K_size), .int (nI v_K_length), .int (nI u66), .int (nI u67), .int (nI y1), .int (nI u68), .long v_K_name, .int (-1)])), (a_K_bytes, .inl (K 0, 1000, .inl f_K_bytes))] H := hP
            have hD := uDPJ hP hD
            refine lv_pc (q := 125) rfl ?_
            refine lv_goto (tgt := 132) hx hb dX10_advance_125 (by decide) ?_
            exact uRv (u66, u67, y1, u68, v_K_name, (-1)) B ⟨(by (try dsimp only); omega), (by (try dsimp only); omega), (by (try dsimp only); omega), (by (try dsimp only); omega), (urTkD (by omega) (urLtN ea45 (by omega) w52) (urDgY ea45 w57) w72 w74 w73), (urAdE i_urTK hk48)⟩ (uSub hP [1, 2, 0] rfl) (hD.sub [1, 2, 0] rfl rfl) hS dX10_advance_132
          refine lv_if_eq (tgt := 106) hx hb dX10_advance_96 (by decide) (fun h9 => absurd h9 (by decide)) (fun _ => ?_)
          refine lv_aload_n hx hb dX10_advance_99 rfl (lv_at hl 0 rfl) ?_
          refine uVvJ (As := []) (rest := []) (wr := []) (wX10_takeName_vc l D K _ a_K v_K_size v_K_length y1 v_K_kind y1 v_K_number v_K_name (-1) a_K_bytes f_K_bytes a_K_keyNames f_K_keyNames (by omega) (by omega) (by omega) (by omega) (by omega) (by omega) r_K_bytes (by omega) (by omega)) B hl.1 hP hD hS [0, 1, 2] [] rfl rfl rfl wd_X10_takeName mml_X10_69 rfl rfl rfl rfl ⟨Nat.le_of_ble_eq_true rfl, Nat.le_of_ble_eq_true rfl⟩ (Nat.le_of_ble_eq_true rfl) ⟨Nat.le_of_ble_eq_true rfl, Nat.le_of_ble_eq_true rfl⟩ dX10_advance_100 (fun u H locs hw hP hD hS => ?_)
          obtain ⟨u76, u77, u78, u79⟩ := u
          try dsimp only at hw
          obtain ⟨w80, w81, w82, w83⟩ := hw
          replace w80 : u76 ≤ 1000 := w80
          replace w81 : u77 ≤ 5 := w81
          replace w82 : u76 = urTo (urLt f_K_bytes) v_K_length y1 := w82
          replace w83 : urNk f_K_keyNames f_K_bytes y1 u76 u77 u78 u79 (-1) := w83
          have hP : va_P D vwCl [(a_K, .inr (10, [.ref a_K_bytes, .ref a_K_keyNames, .int (nI v_K_size), .int (nI v_K_length), .int (nI u76), .int (nI u77), .int (nI y1), .int (nI v_K_number), .long u78, .int u79])), (a_K_bytes, .inl (K 0, 1000, .inl f_K_bytes)), (a_K_keyNames, .inl (K 2, 13, .inr (.inl f_K_keyNames)))] H := hP
          have hD := uDPJ hP hD
          refine lv_goto (tgt := 132) hx hb dX10_advance_103 (by decide) ?_
          refine lv_pc (q := 132) rfl ?_
          exact uRv (u76, u77, y1, v_K_number, u78, u79) B ⟨(by (try dsimp only); omega), (by (try dsimp only); omega), (by (try dsimp only); omega), (by (try dsimp only); omega), (urTkN i_urKN (by omega) (urLtY ea45 w53) w82 w83), (urAdE i_urTK hk48)⟩ (uSub hP [0, 1, 2] rfl) (hD.sub [0, 1, 2] rfl rfl) hS dX10_advance_132
        have k_49 : ¬ y1 < v_K_length := fun h9 => c49 ((nI_ltI (a := y1) (b := v_K_length) (by omega) (by omega)).mpr h9)
        refine lv_aload_n hx hb dX10_advance_76 rfl (lv_at hl 0 rfl) ?_
        refine lv_iconst (v := 0) hx hb dX10_advance_77 (by decide) ?_
        refine uPut (ci := 10) (C := RX10) (T := TX10) (N := 10) (ws' := [(a_K, .inr (10, [.ref a_K_bytes, .ref a_K_keyNames, .int (nI v_K_size), .int (nI v_K_length), .int (nI y1), .int 0, .int (nI y1), .int (nI v_K_number), .long v_K_name, .int (-1)])), (a_K_bytes, .inl (K 0, 1000, .inl f_K_bytes)), (a_K_keyNames, .inl (K 2, 13, .inr (.inl f_K_keyNames)))]) B inlX10 tyX10_ok nmX10 hP hD hS 0 rfl rfl 5 rfl mfl_X10_29 rfl rfl rfl rfl rfl rfl dX10_advance_78 (fun H locs hP hD hS => ?_)
        refine lv_goto (tgt := 132) hx hb dX10_advance_81 (by decide) ?_
        refine lv_pc (q := 132) rfl ?_
        exact uRv (y1, 0, y1, v_K_number, v_K_name, (-1)) B ⟨(by (try dsimp only); omega), (by (try dsimp only); omega), (by (try dsimp only); omega), (by (try dsimp only); omega), (urTkE (by omega)), (urAdE i_urTK hk48)⟩ (uSub hP [0, 1, 2] rfl) (hD.sub [0, 1, 2] rfl rfl) hS dX10_advance_132
      have k_47 : a45 = 10 := (nI_eq (a := a45) (b := 10) (by omega) (by omega)).mp c47
      refine lv_aload_n hx hb dX10_advance_39 rfl (lv_at hl 0 rfl) ?_
      refine lv_dup hx hb dX10_advance_40 rfl ?_
      refine uGet (ci := 10) (C := RX10) (T := TX10) (N := 10) (v := .int (nI y1)) B inlX10 hP 0 rfl rfl 4 rfl mfl_X10_26 rfl rfl dX10_advance_41 ?_
      refine lv_iconst (v := 1) hx hb dX10_advance_44 (by decide) ?_
      refine lv_pc (q := 45) rfl ?_
      refine lv_iadd hx hb dX10_advance_45 ?_
      refine lv_fixi (y := (nI (y1 + 1))) (by rw [show (1 : Int32) = nI 1 from rfl, nI_add]) ?_
      refine uPut (ci := 10) (C := RX10) (T := TX10) (N := 10) (ws' := [(a_K, .inr (10, [.ref a_K_bytes, .ref a_K_keyNames, .int (nI v_K_size), .int (nI v_K_length), .int (nI (y1 + 1)), .int (nI v_K_kind), .int (nI v_K_place), .int (nI v_K_number), .long v_K_name, .int v_K_key])), (a_K_bytes, .inl (K 0, 1000, .inl f_K_bytes)), (a_K_keyNames, .inl (K 2, 13, .inr (.inl f_K_keyNames)))]) B inlX10 tyX10_ok nmX10 hP hD hS 0 rfl rfl 4 rfl mfl_X10_26 rfl rfl rfl rfl rfl rfl dX10_advance_46 (fun H locs hP hD hS => ?_)
      refine lv_goto (tgt := 0) hx hb dX10_advance_49 (by decide) ?_
      refine lv_pc (q := 0) rfl ?_
      refine W.widen (k := 0) (n := 0) (Nat.le_of_ble_eq_true rfl) (Nat.le_of_ble_eq_true rfl) ?_
      exact ih0 (y1 + 1) (by omega) (by omega) (by omega) (urSpS xs_4 (urBlY ea45 (by omega))) (by omega) _ _ _ (uSub hP [0, 1, 2] rfl) (hD.sub [0, 1, 2] rfl rfl) hS (lv_sub hl [0] rfl)
  refine lv_pc (q := 0) rfl ?_
  refine W.widen (k := 0) (n := 0) (Nat.le_of_ble_eq_true rfl) (Nat.le_of_ble_eq_true rfl) ?_
  exact L6 ((v_K_length - v_K_next) + 1) v_K_next (by omega) (by omega) (by omega) urSp0 (Nat.lt_succ_self _) _ _ _ hP hD hS hl
def qwX10_start_vc (a_K : Nat) (v_K_size : Nat) (v_K_length : Nat) (v_K_next : Nat) (v_K_kind : Nat) (v_K_place : Nat) (v_K_number : Nat) (v_K_name : Int64) (v_K_key : Int32) (a_K_bytes : Nat) (f_K_bytes : Nat → Int32) (a_K_keyNames : Nat) (f_K_keyNames : Nat → Int64) (x0 : Nat) : (Nat × Nat × Nat × Nat × Int64 × Int32) → Prop := (fun (u : Nat × Nat × Nat × Nat × Int64 × Int32) => (u.1 ≤ 1000) ∧ (u.2.1 ≤ 5) ∧ (u.2.2.1 ≤ 1000) ∧ (u.2.2.2.1 ≤ 1000) ∧ (urTk f_K_bytes x0 u.2.2.1 u.1 u.2.1 u.2.2.2.1 u.2.2.2.2.1 u.2.2.2.2.2) ∧ (u.2.2.1 = urTo (urBl f_K_bytes) x0 0))
def vwX10_start_vc (K : Nat → ClassId) (a_K : Nat) (v_K_size : Nat) (v_K_length : Nat) (v_K_next : Nat) (v_K_kind : Nat) (v_K_place : Nat) (v_K_number : Nat) (v_K_name : Int64) (v_K_key : Int32) (a_K_bytes : Nat) (f_K_bytes : Nat → Int32) (a_K_keyNames : Nat) (f_K_keyNames : Nat → Int64) (x0 : Nat) : (Nat × Nat × Nat × Nat × Int64 × Int32) → va_W := (fun (u : Nat × Nat × Nat × Nat × Int64 × Int32) => [(a_K, .inr (10, [.ref a_K_bytes, .ref a_K_keyNames, .int (nI v_K_size), .int (nI x0), .int (nI ((u.1))), .int (nI ((u.2.1))), .int (nI ((u.2.2.1))), .int (nI ((u.2.2.2.1))), .long u.2.2.2.2.1, .int u.2.2.2.2.2])), (a_K_bytes, .inl (K 0, 1000, .inl f_K_bytes)), (a_K_keyNames, .inl (K 2, 13, .inr (.inl f_K_keyNames)))])
set_option maxHeartbeats 4000000 in
set_option maxRecDepth 100000 in
theorem wX10_start_vc (l : Launch) (D : va_G) (K : Nat → ClassId) (sz : Nat) (a_K : Nat) (v_K_size : Nat) (v_K_length : Nat) (v_K_next : Nat) (v_K_kind : Nat) (v_K_place : Nat) (v_K_number : Nat) (v_K_name : Int64) (v_K_key : Int32) (a_K_bytes : Nat) (f_K_bytes : Nat → Int32) (a_K_keyNames : Nat) (f_K_keyNames : Nat → Int64) (x0 : Nat) (hv_K_size : v_K_size ≤ 1000) (hv_K_length : v_K_length ≤ 1000) (hv_K_next : v_K_next ≤ 1000) (hv_K_kind : v_K_kind ≤ 5) (hv_K_place : v_K_place ≤ 1000) (hv_K_number : v_K_number ≤ 1000) (r_K_bytes : uRg f_K_bytes 0 255) (hx0 : x0 < v_K_size + 1) (i_urKN : urKn f_K_keyNames) : uMv l yX10_start cX10_start 2 { frames := 3, cells := 0, slots := 0, locals := 63 } [.ref a_K, .int (nI x0)] D K [(a_K, .inr (10, [.ref a_K_bytes, .ref a_K_keyNames, .int (nI v_K_size), .int (nI v_K_length), .int (nI v_K_next), .int (nI v_K_kind), .int (nI v_K_place), .int (nI v_K_number), .long v_K_name, .int v_K_key])), (a_K_bytes, .inl (K 0, 1000, .inl f_K_bytes)), (a_K_keyNames, .inl (K 2, 13, .inr (.inl f_K_keyNames)))] sz (qwX10_start_vc a_K v_K_size v_K_length v_K_next v_K_kind v_K_place v_K_number v_K_name v_K_key a_K_bytes f_K_bytes a_K_keyNames f_K_keyNames x0) (vwX10_start_vc K a_K v_K_size v_K_length v_K_next v_K_kind v_K_place v_K_number v_K_name v_K_key a_K_bytes f_K_bytes a_K_keyNames f_K_keyNames x0) := by
  refine uMet (Qc := uQv D (qwX10_start_vc a_K v_K_size v_K_length v_K_next v_K_kind v_K_place v_K_number v_K_name v_K_key a_K_bytes f_K_bytes a_K_keyNames f_K_keyNames x0) (vwX10_start_vc K a_K v_K_size v_K_length v_K_next v_K_kind v_K_place v_K_number v_K_name v_K_key a_K_bytes f_K_bytes a_K_keyNames f_K_keyNames x0)) (ret := none) (by decide) (Nat.le_of_ble_eq_true rfl) ?_
  intro p e s m below meth c A ls hAe hsz B hP hD hS hl
  have hx := B.1
  have hb := B.2.1
  have hl : lv_has ls 2 [(0, .ref a_K), (1, .int (nI x0))] := hl
  refine lv_aload_n hx hb dX10_start_0 rfl (lv_at hl 0 rfl) ?_
  refine lv_iload_n hx hb dX10_start_1 rfl (lv_at hl 1 rfl) ?_
  refine uPut (ci := 10) (C := RX10) (T := TX10) (N := 10) (ws' := [(a_K, .inr (10, [.ref a_K_bytes, .ref a_K_keyNames, .int (nI v_K_size), .int (nI x0), .int (nI v_K_next), .int (nI v_K_kind), .int (nI v_K_place), .int (nI v_K_number), .long v_K_name, .int v_K_key])), (a_K_bytes, .inl (K 0, 1000, .inl f_K_bytes)), (a_K_keyNames, .inl (K 2, 13, .inr (.inl f_K_keyNames)))]) B inlX10 tyX10_ok nmX10 hP hD hS 0 rfl rfl 3 rfl mfl_X10_23 rfl rfl rfl rfl rfl rfl dX10_start_2 (fun H locs hP hD hS => ?_)
  refine lv_aload_n hx hb dX10_start_5 rfl (lv_at hl 0 rfl) ?_
  refine lv_iconst (v := 0) hx hb dX10_start_6 (by decide) ?_
  refine lv_pc (q := 7) rfl ?_
  refine uPut (ci := 10) (C := RX10) (T := TX10) (N := 10) (ws' := [(a_K, .inr (10, [.ref a_K_bytes, .ref a_K_keyNames, .int (nI v_K_size), .int (nI x0), .int 0, .int (nI v_K_kind), .int (nI v_K_place), .int (nI v_K_number), .long v_K_name, .int v_K_key])), (a_K_bytes, .inl (K 0, 1000, .inl f_K_bytes)), (a_K_keyNames, .inl (K 2, 13, .inr (.inl f_K_keyNames)))]) B inlX10 tyX10_ok nmX10 hP hD hS 0 rfl rfl 4 rfl mfl_X10_26 rfl rfl rfl rfl rfl rfl dX10_start_7 (fun H locs hP hD hS => ?_)
  refine lv_aload_n hx hb dX10_start_10 rfl (lv_at hl 0 rfl) ?_
  refine uVvJ (As := []) (rest := []) (wr := []) (wX10_advance_vc l D K _ a_K v_K_size x0 0 v_K_kind v_K_place v_K_number v_K_name v_K_key a_K_bytes f_K_bytes a_K_keyNames f_K_keyNames (by omega) (by omega) (by omega) (by omega) (by omega) (by omega) r_K_bytes i_urKN) B hl.1 hP hD hS [0, 1, 2] [] rfl rfl rfl wd_X10_advance mml_X10_62 rfl rfl rfl rfl ⟨Nat.le_of_ble_eq_true rfl, Nat.le_of_ble_eq_true rfl⟩ (Nat.le_of_ble_eq_true rfl) ⟨Nat.le_of_ble_eq_true rfl, Nat.le_of_ble_eq_true rfl⟩ dX10_start_11 (fun u H locs hw hP hD hS => ?_)
  obtain ⟨u2, u3, u4, u5, u6, u7⟩ := u
  try dsimp only at hw
  obtain ⟨w8, w9, w10, w11, w12, w13⟩ := hw
  replace w8 : u2 ≤ 1000 := w8
  replace w9 : u3 ≤ 5 := w9
  replace w10 : u4 ≤ 1000 := w10
  replace w11 : u5 ≤ 1000 := w11
  replace w13 : u4 = urTo (urBl f_K_bytes) x0 0 := w13
  have hP : va_P D vwCl [(a_K, .inr (10, [.ref a_K_bytes, .ref a_K_keyNames, .int (nI v_K_size), .int (nI x0), .int (nI u2), .int (nI u3), .int (nI u4), .int (nI u5), .long u6, .int u7])), (a_K_bytes, .inl (K 0, 1000, .inl f_K_bytes)), (a_K_keyNames, .inl (K 2, 13, .inr (.inl f_K_keyNames)))] H := hP
  have hD := uDPJ hP hD
  exact uRv (u2, u3, u4, u5, u6, u7) B ⟨(by (try dsimp only); omega), (by (try dsimp only); omega), (by (try dsimp only); omega), (by (try dsimp only); omega), w12, w13⟩ (uSub hP [0, 1, 2] rfl) (hD.sub [0, 1, 2] rfl rfl) hS dX10_start_14
def qwX5_fail_vc (a_E : Nat) (v_E_minutesTold : Int32) (v_E_lookTold : Int32) (v_E_faultSort : Int32) (v_E_faultPlace : Int32) (a_K : Nat) (a_E_orderNames : Nat) (a_E_orderPlaces : Nat) (a_E_actNames : Nat) (a_E_actPlaces : Nat) (a_RB : Nat) (x0 : Int32) (x1 : Int32) : Int32 → (Unit) → Prop := (fun (r : Int32) (u : Unit) => ((r = 0)))
def vwX5_fail_vc (K : Nat → ClassId) (a_E : Nat) (v_E_minutesTold : Int32) (v_E_lookTold : Int32) (v_E_faultSort : Int32) (v_E_faultPlace : Int32) (a_K : Nat) (a_E_orderNames : Nat) (a_E_orderPlaces : Nat) (a_E_actNames : Nat) (a_E_actPlaces : Nat) (a_RB : Nat) (x0 : Int32) (x1 : Int32) : (Unit) → va_W := (fun (u : Unit) => [(a_E, .inr (5, [.ref a_K, .ref a_E_orderNames, .ref a_E_orderPlaces, .ref a_E_actNames, .ref a_E_actPlaces, .ref a_RB, .int v_E_minutesTold, .int v_E_lookTold, .int x0, .int x1]))])
set_option maxHeartbeats 4000000 in
set_option maxRecDepth 100000 in
theorem wX5_fail_vc (l : Launch) (D : va_G) (K : Nat → ClassId) (sz : Nat) (a_E : Nat) (v_E_minutesTold : Int32) (v_E_lookTold : Int32) (v_E_faultSort : Int32) (v_E_faultPlace : Int32) (a_K : Nat) (a_E_orderNames : Nat) (a_E_orderPlaces : Nat) (a_E_actNames : Nat) (a_E_actPlaces : Nat) (a_RB : Nat) (x0 : Int32) (x1 : Int32) (hv_E_minutesTold : v_E_minutesTold = 0 ∨ v_E_minutesTold = 1) (hv_E_lookTold : v_E_lookTold = 0 ∨ v_E_lookTold = 1) : uMi l yX5_fail cX5_fail 3 (some .boolean) { frames := 0, cells := 0, slots := 0, locals := 0 } [.ref a_E, .int x0, .int x1] D K [(a_E, .inr (5, [.ref a_K, .ref a_E_orderNames, .ref a_E_orderPlaces, .ref a_E_actNames, .ref a_E_actPlaces, .ref a_RB, .int v_E_minutesTold, .int v_E_lookTold, .int v_E_faultSort, .int v_E_faultPlace]))] sz (qwX5_fail_vc a_E v_E_minutesTold v_E_lookTold v_E_faultSort v_E_faultPlace a_K a_E_orderNames a_E_orderPlaces a_E_actNames a_E_actPlaces a_RB x0 x1) (vwX5_fail_vc K a_E v_E_minutesTold v_E_lookTold v_E_faultSort v_E_faultPlace a_K a_E_orderNames a_E_orderPlaces a_E_actNames a_E_actPlaces a_RB x0 x1) := by
  refine uMet (Qc := uQi D (qwX5_fail_vc a_E v_E_minutesTold v_E_lookTold v_E_faultSort v_E_faultPlace a_K a_E_orderNames a_E_orderPlaces a_E_actNames a_E_actPlaces a_RB x0 x1) (vwX5_fail_vc K a_E v_E_minutesTold v_E_lookTold v_E_faultSort v_E_faultPlace a_K a_E_orderNames a_E_orderPlaces a_E_actNames a_E_actPlaces a_RB x0 x1)) (ret := (some .boolean)) (by decide) (Nat.le_of_ble_eq_true rfl) ?_
  intro p e s m below meth c A ls hAe hsz B hP hD hS hl
  have hx := B.1
  have hb := B.2.1
  have hl : lv_has ls 3 [(0, .ref a_E), (1, .int x0), (2, .int x1)] := hl
  refine lv_aload_n hx hb dX5_fail_0 rfl (lv_at hl 0 rfl) ?_
  refine lv_iload_n hx hb dX5_fail_1 rfl (lv_at hl 1 rfl) ?_
  refine uPut (ci := 5) (C := RX5) (T := TX5) (N := 10) (ws' := [(a_E, .inr (5, [.ref a_K, .ref a_E_orderNames, .ref a_E_orderPlaces, .ref a_E_actNames, .ref a_E_actPlaces, .ref a_RB, .int v_E_minutesTold, .int v_E_lookTold, .int x0, .int v_E_faultPlace]))]) B inlX5 tyX5_ok nmX5 hP hD hS 0 rfl rfl 8 rfl mfl_X5_32 rfl rfl rfl rfl rfl rfl dX5_fail_2 (fun H locs hP hD hS => ?_)
  refine lv_aload_n hx hb dX5_fail_5 rfl (lv_at hl 0 rfl) ?_
  refine lv_iload_n hx hb dX5_fail_6 rfl (lv_at hl 2 rfl) ?_
  refine lv_pc (q := 7) rfl ?_
  refine uPut (ci := 5) (C := RX5) (T := TX5) (N := 10) (ws' := [(a_E, .inr (5, [.ref a_K, .ref a_E_orderNames, .ref a_E_orderPlaces, .ref a_E_actNames, .ref a_E_actPlaces, .ref a_RB, .int v_E_minutesTold, .int v_E_lookTold, .int x0, .int x1]))]) B inlX5 tyX5_ok nmX5 hP hD hS 0 rfl rfl 9 rfl mfl_X5_36 rfl rfl rfl rfl rfl rfl dX5_fail_7 (fun H locs hP hD hS => ?_)
  refine lv_iconst (v := 0) hx hb dX5_fail_10 (by decide) ?_
  exact uRz () B rfl rfl (uSub hP [0] rfl) (hD.sub [0] rfl rfl) hS dX5_fail_11
def qwX5_passMark_vc (a_E : Nat) (v_E_minutesTold : Int32) (v_E_lookTold : Int32) (v_E_faultSort : Int32) (v_E_faultPlace : Int32) (a_K : Nat) (v_K_size : Nat) (v_K_length : Nat) (v_K_next : Nat) (v_K_kind : Nat) (v_K_place : Nat) (v_K_number : Nat) (v_K_name : Int64) (v_K_key : Int32) (a_K_bytes : Nat) (f_K_bytes : Nat → Int32) (a_K_keyNames : Nat) (f_K_keyNames : Nat → Int64) (a_E_orderNames : Nat) (a_E_orderPlaces : Nat) (a_E_actNames : Nat) (a_E_actPlaces : Nat) (a_RB : Nat) (x0 : Nat) : Int32 → (Int32 × Int32 × Nat × Nat × Nat × Nat × Int64 × Int32) → Prop := (fun (r : Int32) (u : Int32 × Int32 × Nat × Nat × Nat × Nat × Int64 × Int32) => ((r = 0 ∧ (urIs (urMar f_K_bytes v_K_length x0 v_K_place) u.1 u.2.1)) ∨ (r = 1 ∧ (urMar f_K_bytes v_K_length x0 v_K_place = urOk u.2.2.2.2.1) ∧ (urFs u.1 u.2.1))) ∧ (u.2.2.1 ≤ 1000) ∧ (u.2.2.2.1 ≤ 5) ∧ (u.2.2.2.2.1 ≤ 1000) ∧ (u.2.2.2.2.2.1 ≤ 1000) ∧ (urTk f_K_bytes v_K_length u.2.2.2.2.1 u.2.2.1 u.2.2.2.1 u.2.2.2.2.2.1 u.2.2.2.2.2.2.1 u.2.2.2.2.2.2.2))
def vwX5_passMark_vc (K : Nat → ClassId) (a_E : Nat) (v_E_minutesTold : Int32) (v_E_lookTold : Int32) (v_E_faultSort : Int32) (v_E_faultPlace : Int32) (a_K : Nat) (v_K_size : Nat) (v_K_length : Nat) (v_K_next : Nat) (v_K_kind : Nat) (v_K_place : Nat) (v_K_number : Nat) (v_K_name : Int64) (v_K_key : Int32) (a_K_bytes : Nat) (f_K_bytes : Nat → Int32) (a_K_keyNames : Nat) (f_K_keyNames : Nat → Int64) (a_E_orderNames : Nat) (a_E_orderPlaces : Nat) (a_E_actNames : Nat) (a_E_actPlaces : Nat) (a_RB : Nat) (x0 : Nat) : (Int32 × Int32 × Nat × Nat × Nat × Nat × Int64 × Int32) → va_W := (fun (u : Int32 × Int32 × Nat × Nat × Nat × Nat × Int64 × Int32) => [(a_E, .inr (5, [.ref a_K, .ref a_E_orderNames, .ref a_E_orderPlaces, .ref a_E_actNames, .ref a_E_actPlaces, .ref a_RB, .int v_E_minutesTold, .int v_E_lookTold, .int u.1, .int u.2.1])), (a_K, .inr (10, [.ref a_K_bytes, .ref a_K_keyNames, .int (nI v_K_size), .int (nI v_K_length), .int (nI ((u.2.2.1))), .int (nI ((u.2.2.2.1))), .int (nI ((u.2.2.2.2.1))), .int (nI ((u.2.2.2.2.2.1))), .long u.2.2.2.2.2.2.1, .int u.2.2.2.2.2.2.2])), (a_K_bytes, .inl (K 0, 1000, .inl f_K_bytes)), (a_K_keyNames, .inl (K 2, 13, .inr (.inl f_K_keyNames)))])
set_option maxHeartbeats 4000000 in
set_option maxRecDepth 100000 in
theorem wX5_passMark_vc (l : Launch) (D : va_G) (K : Nat → ClassId) (sz : Nat) (a_E : Nat) (v_E_minutesTold : Int32) (v_E_lookTold : Int32) (v_E_faultSort : Int32) (v_E_faultPlace : Int32) (a_K : Nat) (v_K_size : Nat) (v_K_length : Nat) (v_K_next : Nat) (v_K_kind : Nat) (v_K_place : Nat) (v_K_number : Nat) (v_K_name : Int64) (v_K_key : Int32) (a_K_bytes : Nat) (f_K_bytes : Nat → Int32) (a_K_keyNames : Nat) (f_K_keyNames : Nat → Int64) (a_E_orderNames : Nat) (a_E_orderPlaces : Nat) (a_E_actNames : Nat) (a_E_actPlaces : Nat) (a_RB : Nat) (x0 : Nat) (hv_E_minutesTold : v_E_minutesTold = 0 ∨ v_E_minutesTold = 1) (hv_E_lookTold : v_E_lookTold = 0 ∨ v_E_lookTold = 1) (hv_K_size : v_K_size ≤ 1000) (hv_K_length : v_K_length ≤ 1000) (hv_K_next : v_K_next ≤ 1000) (hv_K_kind : v_K_kind ≤ 5) (hv_K_place : v_K_place ≤ 1000) (hv_K_number : v_K_number ≤ 1000) (r_K_bytes : uRg f_K_bytes 0 255) (hx0 : x0 < 6) (i_urKN : urKn f_K_keyNames) (i_urTK : urTk f_K_bytes v_K_length v_K_place v_K_next v_K_kind v_K_number v_K_name v_K_key) (i_urFS : urFs v_E_faultSort v_E_faultPlace) : uMi l yX5_passMark cX5_passMark 2 (some .boolean) { frames := 3, cells := 0, slots := 0, locals := 63 } [.ref a_E, .int (nI x0)] D K [(a_E, .inr (5, [.ref a_K, .ref a_E_orderNames, .ref a_E_orderPlaces, .ref a_E_actNames, .ref a_E_actPlaces, .ref a_RB, .int v_E_minutesTold, .int v_E_lookTold, .int v_E_faultSort, .int v_E_faultPlace])), (a_K, .inr (10, [.ref a_K_bytes, .ref a_K_keyNames, .int (nI v_K_size), .int (nI v_K_length), .int (nI v_K_next), .int (nI v_K_kind), .int (nI v_K_place), .int (nI v_K_number), .long v_K_name, .int v_K_key])), (a_K_bytes, .inl (K 0, 1000, .inl f_K_bytes)), (a_K_keyNames, .inl (K 2, 13, .inr (.inl f_K_keyNames)))] sz (qwX5_passMark_vc a_E v_E_minutesTold v_E_lookTold v_E_faultSort v_E_faultPlace a_K v_K_size v_K_length v_K_next v_K_kind v_K_place v_K_number v_K_name v_K_key a_K_bytes f_K_bytes a_K_keyNames f_K_keyNames a_E_orderNames a_E_orderPlaces a_E_actNames a_E_actPlaces a_RB x0) (vwX5_passMark_vc K a_E v_E_minutesTold v_E_lookTold v_E_faultSort v_E_faultPlace a_K v_K_size v_K_length v_K_next v_K_kind v_K_place v_K_number v_K_name v_K_key a_K_bytes f_K_bytes a_K_keyNames f_K_keyNames a_E_orderNames a_E_orderPlaces a_E_actNames a_E_actPlaces a_RB x0) := by
  refine uMet (Qc := uQi D (qwX5_passMark_vc a_E v_E_minutesTold v_E_lookTold v_E_faultSort v_E_faultPlace a_K v_K_size v_K_length v_K_next v_K_kind v_K_place v_K_number v_K_name v_K_key a_K_bytes f_K_bytes a_K_keyNames f_K_keyNames a_E_orderNames a_E_orderPlaces a_E_actNames a_E_actPlaces a_RB x0) (vwX5_passMark_vc K a_E v_E_minutesTold v_E_lookTold v_E_faultSort v_E_faultPlace a_K v_K_size v_K_length v_K_next v_K_kind v_K_place v_K_number v_K_name v_K_key a_K_bytes f_K_bytes a_K_keyNames f_K_keyNames a_E_orderNames a_E_orderPlaces a_E_actNames a_E_actPlaces a_RB x0)) (ret := (some .boolean)) (by decide) (Nat.le_of_ble_eq_true rfl) ?_
  intro p e s m below meth c A ls hAe hsz B hP hD hS hl
  have hx := B.1
  have hb := B.2.1
  have hl : lv_has ls 2 [(0, .ref a_E), (1, .int (nI x0))] := hl
  refine lv_aload_n hx hb dX5_passMark_0 rfl (lv_at hl 0 rfl) ?_
  refine uGet (ci := 5) (C := RX5) (T := TX5) (N := 10) (v := .ref a_K) B inlX5 hP 0 rfl rfl 0 rfl mfl_X5_39 rfl rfl dX5_passMark_1 ?_
  refine uGet (ci := 10) (C := RX10) (T := TX10) (N := 10) (v := .int (nI v_K_kind)) B inlX10 hP 1 rfl rfl 5 rfl mfl_X5_54 rfl rfl dX5_passMark_4 ?_
  refine lv_iload_n hx hb dX5_passMark_7 rfl (lv_at hl 1 rfl) ?_
  refine lv_icmp_eq (tgt := 24) hx hb dX5_passMark_8 (by decide) (fun c1 => ?_) (fun c1 => ?_)
  · have k_1 : v_K_kind = x0 := (nI_eq (a := v_K_kind) (b := x0) (by omega) (by omega)).mp c1
    refine lv_pc (q := 24) rfl ?_
    refine lv_aload_n hx hb dX5_passMark_24 rfl (lv_at hl 0 rfl) ?_
    refine uGet (ci := 5) (C := RX5) (T := TX5) (N := 10) (v := .ref a_K) B inlX5 hP 0 rfl rfl 0 rfl mfl_X5_39 rfl rfl dX5_passMark_25 ?_
    refine uVv (As := []) (rest := []) (wr := [(a_E, .inr (5, [.ref a_K, .ref a_E_orderNames, .ref a_E_orderPlaces, .ref a_E_actNames, .ref a_E_actPlaces, .ref a_RB, .int v_E_minutesTold, .int v_E_lookTold, .int v_E_faultSort, .int v_E_faultPlace]))]) [(a_K, .inr (10, [.ref a_K_bytes, .ref a_K_keyNames, .int (nI v_K_size), .int (nI v_K_length), .int (nI v_K_next), .int (nI v_K_kind), .int (nI v_K_place), .int (nI v_K_number), .long v_K_name, .int v_K_key])), (a_K_bytes, .inl (K 0, 1000, .inl f_K_bytes)), (a_K_keyNames, .inl (K 2, 13, .inr (.inl f_K_keyNames)))] B hl.1 hP hD hS [1, 2, 3] [0] rfl rfl rfl (wX10_advance_vd l D K _ a_K v_K_size v_K_length v_K_next v_K_kind v_K_place v_K_number v_K_name v_K_key a_K_bytes f_K_bytes a_K_keyNames f_K_keyNames (by omega) (by omega) (by omega) (by omega) (by omega) (by omega) r_K_bytes i_urKN i_urTK) wd_X10_advance mml_X5_110 rfl rfl rfl rfl ⟨Nat.le_of_ble_eq_true rfl, Nat.le_of_ble_eq_true rfl⟩ (Nat.le_of_ble_eq_true rfl) ⟨Nat.le_of_ble_eq_true rfl, Nat.le_of_ble_eq_true rfl⟩ dX5_passMark_28 (fun u H locs hw hP hD hS => ?_)
    obtain ⟨u3, u4, u5, u6, u7, u8⟩ := u
    try dsimp only at hw
    obtain ⟨w9, w10, w11, w12, w13, w14⟩ := hw
    replace w9 : u3 ≤ 1000 := w9
    replace w10 : u4 ≤ 5 := w10
    replace w11 : u5 ≤ 1000 := w11
    replace w12 : u6 ≤ 1000 := w12
    replace w14 : u5 = urAd f_K_bytes v_K_length v_K_place := w14
    have hP : va_P D vwCl [(a_E, .inr (5, [.ref a_K, .ref a_E_orderNames, .ref a_E_orderPlaces, .ref a_E_actNames, .ref a_E_actPlaces, .ref a_RB, .int v_E_minutesTold, .int v_E_lookTold, .int v_E_faultSort, .int v_E_faultPlace])), (a_K, .inr (10, [.ref a_K_bytes, .ref a_K_keyNames, .int (nI v_K_size), .int (nI v_K_length), .int (nI u3), .int (nI u4), .int (nI u5), .int (nI u6), .long u7, .int u8])), (a_K_bytes, .inl (K 0, 1000, .inl f_K_bytes)), (a_K_keyNames, .inl (K 2, 13, .inr (.inl f_K_keyNames)))] H := hP
    have hD := uDPJ hP hD
    refine lv_iconst (v := 1) hx hb dX5_passMark_31 (by decide) ?_
    exact uRz (v_E_faultSort, v_E_faultPlace, u3, u4, u5, u6, u7, u8) B rfl ⟨Or.inr ⟨rfl, (urMarT i_urTK k_1 w14), i_urFS⟩, (by (try dsimp only); omega), (by (try dsimp only); omega), (by (try dsimp only); omega), (by (try dsimp only); omega), w13⟩ (uSub hP [0, 1, 2, 3] rfl) (hD.sub [0, 1, 2, 3] rfl rfl) hS dX5_passMark_32
  have k_1 : ¬ v_K_kind = x0 := fun h9 => c1 ((nI_eq (a := v_K_kind) (b := x0) (by omega) (by omega)).mpr h9)
  refine lv_pc (q := 11) rfl ?_
  refine lv_aload_n hx hb dX5_passMark_11 rfl (lv_at hl 0 rfl) ?_
  refine lv_iconst (v := 1) hx hb dX5_passMark_12 (by decide) ?_
  refine lv_aload_n hx hb dX5_passMark_13 rfl (lv_at hl 0 rfl) ?_
  refine uGet (ci := 5) (C := RX5) (T := TX5) (N := 10) (v := .ref a_K) B inlX5 hP 0 rfl rfl 0 rfl mfl_X5_39 rfl rfl dX5_passMark_14 ?_
  refine uGet (ci := 10) (C := RX10) (T := TX10) (N := 10) (v := .int (nI v_K_place)) B inlX10 hP 1 rfl rfl 6 rfl mfl_X5_59 rfl rfl dX5_passMark_17 ?_
  refine uVi (As := [.int 1, .int (nI v_K_place)]) (rest := []) (wr := [(a_K, .inr (10, [.ref a_K_bytes, .ref a_K_keyNames, .int (nI v_K_size), .int (nI v_K_length), .int (nI v_K_next), .int (nI v_K_kind), .int (nI v_K_place), .int (nI v_K_number), .long v_K_name, .int v_K_key])), (a_K_bytes, .inl (K 0, 1000, .inl f_K_bytes)), (a_K_keyNames, .inl (K 2, 13, .inr (.inl f_K_keyNames)))]) [(a_E, .inr (5, [.ref a_K, .ref a_E_orderNames, .ref a_E_orderPlaces, .ref a_E_actNames, .ref a_E_actPlaces, .ref a_RB, .int v_E_minutesTold, .int v_E_lookTold, .int v_E_faultSort, .int v_E_faultPlace]))] B hl.1 hP hD hS [0] [1, 2, 3] rfl rfl rfl (wX5_fail_vc l D K _ a_E v_E_minutesTold v_E_lookTold v_E_faultSort v_E_faultPlace a_K a_E_orderNames a_E_orderPlaces a_E_actNames a_E_actPlaces a_RB 1 (nI v_K_place) hv_E_minutesTold hv_E_lookTold) wd_X5_fail mml_X5_72 rfl rfl rfl rfl ⟨Nat.le_of_ble_eq_true rfl, Nat.le_of_ble_eq_true rfl⟩ (Nat.le_of_ble_eq_true rfl) ⟨Nat.le_of_ble_eq_true rfl, Nat.le_of_ble_eq_true rfl⟩ dX5_passMark_20 (fun r15 u H locs hw hP hD hS => ?_)
  try dsimp only at hw
  have w16 := hw
  have hP : va_P D vwCl [(a_K, .inr (10, [.ref a_K_bytes, .ref a_K_keyNames, .int (nI v_K_size), .int (nI v_K_length), .int (nI v_K_next), .int (nI v_K_kind), .int (nI v_K_place), .int (nI v_K_number), .long v_K_name, .int v_K_key])), (a_K_bytes, .inl (K 0, 1000, .inl f_K_bytes)), (a_K_keyNames, .inl (K 2, 13, .inr (.inl f_K_keyNames))), (a_E, .inr (5, [.ref a_K, .ref a_E_orderNames, .ref a_E_orderPlaces, .ref a_E_actNames, .ref a_E_actPlaces, .ref a_RB, .int v_E_minutesTold, .int v_E_lookTold, .int 1, .int (nI v_K_place)]))] H := hP
  have hD := uDPJ hP hD
  rcases w16 with rfl
  refine lv_pc (q := 23) rfl ?_
  exact uRz (1, nI v_K_place, v_K_next, v_K_kind, v_K_place, v_K_number, v_K_name, v_K_key) B rfl ⟨Or.inl ⟨rfl, (urMarF i_urTK k_1)⟩, (by (try dsimp only); omega), (by (try dsimp only); omega), (by (try dsimp only); omega), (by (try dsimp only); omega), i_urTK⟩ (uSub hP [3, 0, 1, 2] rfl) (hD.sub [3, 0, 1, 2] rfl rfl) hS dX5_passMark_23
def qwX5_passKey_vc (a_E : Nat) (v_E_minutesTold : Int32) (v_E_lookTold : Int32) (v_E_faultSort : Int32) (v_E_faultPlace : Int32) (a_K : Nat) (v_K_size : Nat) (v_K_length : Nat) (v_K_next : Nat) (v_K_kind : Nat) (v_K_place : Nat) (v_K_number : Nat) (v_K_name : Int64) (v_K_key : Int32) (a_K_bytes : Nat) (f_K_bytes : Nat → Int32) (a_K_keyNames : Nat) (f_K_keyNames : Nat → Int64) (a_E_orderNames : Nat) (a_E_orderPlaces : Nat) (a_E_actNames : Nat) (a_E_actPlaces : Nat) (a_RB : Nat) (x0 : Int32) : Int32 → (Int32 × Int32 × Nat × Nat × Nat × Nat × Int64 × Int32) → Prop := (fun (r : Int32) (u : Int32 × Int32 × Nat × Nat × Nat × Nat × Int64 × Int32) => ((r = 0 ∧ (urIs (urKey f_K_bytes v_K_length x0 v_K_place) u.1 u.2.1)) ∨ (r = 1 ∧ (urKey f_K_bytes v_K_length x0 v_K_place = urOk u.2.2.2.2.1) ∧ (urFs u.1 u.2.1))) ∧ (u.2.2.1 ≤ 1000) ∧ (u.2.2.2.1 ≤ 5) ∧ (u.2.2.2.2.1 ≤ 1000) ∧ (u.2.2.2.2.2.1 ≤ 1000) ∧ (urTk f_K_bytes v_K_length u.2.2.2.2.1 u.2.2.1 u.2.2.2.1 u.2.2.2.2.2.1 u.2.2.2.2.2.2.1 u.2.2.2.2.2.2.2))
def vwX5_passKey_vc (K : Nat → ClassId) (a_E : Nat) (v_E_minutesTold : Int32) (v_E_lookTold : Int32) (v_E_faultSort : Int32) (v_E_faultPlace : Int32) (a_K : Nat) (v_K_size : Nat) (v_K_length : Nat) (v_K_next : Nat) (v_K_kind : Nat) (v_K_place : Nat) (v_K_number : Nat) (v_K_name : Int64) (v_K_key : Int32) (a_K_bytes : Nat) (f_K_bytes : Nat → Int32) (a_K_keyNames : Nat) (f_K_keyNames : Nat → Int64) (a_E_orderNames : Nat) (a_E_orderPlaces : Nat) (a_E_actNames : Nat) (a_E_actPlaces : Nat) (a_RB : Nat) (x0 : Int32) : (Int32 × Int32 × Nat × Nat × Nat × Nat × Int64 × Int32) → va_W := (fun (u : Int32 × Int32 × Nat × Nat × Nat × Nat × Int64 × Int32) => [(a_E, .inr (5, [.ref a_K, .ref a_E_orderNames, .ref a_E_orderPlaces, .ref a_E_actNames, .ref a_E_actPlaces, .ref a_RB, .int v_E_minutesTold, .int v_E_lookTold, .int u.1, .int u.2.1])), (a_K, .inr (10, [.ref a_K_bytes, .ref a_K_keyNames, .int (nI v_K_size), .int (nI v_K_length), .int (nI ((u.2.2.1))), .int (nI ((u.2.2.2.1))), .int (nI ((u.2.2.2.2.1))), .int (nI ((u.2.2.2.2.2.1))), .long u.2.2.2.2.2.2.1, .int u.2.2.2.2.2.2.2])), (a_K_bytes, .inl (K 0, 1000, .inl f_K_bytes)), (a_K_keyNames, .inl (K 2, 13, .inr (.inl f_K_keyNames)))])
set_option maxHeartbeats 4000000 in
set_option maxRecDepth 100000 in
theorem wX5_passKey_vc (l : Launch) (D : va_G) (K : Nat → ClassId) (sz : Nat) (a_E : Nat) (v_E_minutesTold : Int32) (v_E_lookTold : Int32) (v_E_faultSort : Int32) (v_E_faultPlace : Int32) (a_K : Nat) (v_K_size : Nat) (v_K_length : Nat) (v_K_next : Nat) (v_K_kind : Nat) (v_K_place : Nat) (v_K_number : Nat) (v_K_name : Int64) (v_K_key : Int32) (a_K_bytes : Nat) (f_K_bytes : Nat → Int32) (a_K_keyNames : Nat) (f_K_keyNames : Nat → Int64) (a_E_orderNames : Nat) (a_E_orderPlaces : Nat) (a_E_actNames : Nat) (a_E_actPlaces : Nat) (a_RB : Nat) (x0 : Int32) (hv_E_minutesTold : v_E_minutesTold = 0 ∨ v_E_minutesTold = 1) (hv_E_lookTold : v_E_lookTold = 0 ∨ v_E_lookTold = 1) (hv_K_size : v_K_size ≤ 1000) (hv_K_length : v_K_length ≤ 1000) (hv_K_next : v_K_next ≤ 1000) (hv_K_kind : v_K_kind ≤ 5) (hv_K_place : v_K_place ≤ 1000) (hv_K_number : v_K_number ≤ 1000) (r_K_bytes : uRg f_K_bytes 0 255) (i_urKN : urKn f_K_keyNames) (i_urTK : urTk f_K_bytes v_K_length v_K_place v_K_next v_K_kind v_K_number v_K_name v_K_key) (i_urFS : urFs v_E_faultSort v_E_faultPlace) : uMi l yX5_passKey cX5_passKey 2 (some .boolean) { frames := 3, cells := 0, slots := 0, locals := 63 } [.ref a_E, .int x0] D K [(a_E, .inr (5, [.ref a_K, .ref a_E_orderNames, .ref a_E_orderPlaces, .ref a_E_actNames, .ref a_E_actPlaces, .ref a_RB, .int v_E_minutesTold, .int v_E_lookTold, .int v_E_faultSort, .int v_E_faultPlace])), (a_K, .inr (10, [.ref a_K_bytes, .ref a_K_keyNames, .int (nI v_K_size), .int (nI v_K_length), .int (nI v_K_next), .int (nI v_K_kind), .int (nI v_K_place), .int (nI v_K_number), .long v_K_name, .int v_K_key])), (a_K_bytes, .inl (K 0, 1000, .inl f_K_bytes)), (a_K_keyNames, .inl (K 2, 13, .inr (.inl f_K_keyNames)))] sz (qwX5_passKey_vc a_E v_E_minutesTold v_E_lookTold v_E_faultSort v_E_faultPlace a_K v_K_size v_K_length v_K_next v_K_kind v_K_place v_K_number v_K_name v_K_key a_K_bytes f_K_bytes a_K_keyNames f_K_keyNames a_E_orderNames a_E_orderPlaces a_E_actNames a_E_actPlaces a_RB x0) (vwX5_passKey_vc K a_E v_E_minutesTold v_E_lookTold v_E_faultSort v_E_faultPlace a_K v_K_size v_K_length v_K_next v_K_kind v_K_place v_K_number v_K_name v_K_key a_K_bytes f_K_bytes a_K_keyNames f_K_keyNames a_E_orderNames a_E_orderPlaces a_E_actNames a_E_actPlaces a_RB x0) := by
  refine uMet (Qc := uQi D (qwX5_passKey_vc a_E v_E_minutesTold v_E_lookTold v_E_faultSort v_E_faultPlace a_K v_K_size v_K_length v_K_next v_K_kind v_K_place v_K_number v_K_name v_K_key a_K_bytes f_K_bytes a_K_keyNames f_K_keyNames a_E_orderNames a_E_orderPlaces a_E_actNames a_E_actPlaces a_RB x0) (vwX5_passKey_vc K a_E v_E_minutesTold v_E_lookTold v_E_faultSort v_E_faultPlace a_K v_K_size v_K_length v_K_next v_K_kind v_K_place v_K_number v_K_name v_K_key a_K_bytes f_K_bytes a_K_keyNames f_K_keyNames a_E_orderNames a_E_orderPlaces a_E_actNames a_E_actPlaces a_RB x0)) (ret := (some .boolean)) (by decide) (Nat.le_of_ble_eq_true rfl) ?_
  intro p e s m below meth c A ls hAe hsz B hP hD hS hl
  have hx := B.1
  have hb := B.2.1
  have hl : lv_has ls 2 [(0, .ref a_E), (1, .int x0)] := hl
  refine lv_aload_n hx hb dX5_passKey_0 rfl (lv_at hl 0 rfl) ?_
  refine uGet (ci := 5) (C := RX5) (T := TX5) (N := 10) (v := .ref a_K) B inlX5 hP 0 rfl rfl 0 rfl mfl_X5_39 rfl rfl dX5_passKey_1 ?_
  refine uGet (ci := 10) (C := RX10) (T := TX10) (N := 10) (v := .int v_K_key) B inlX10 hP 1 rfl rfl 9 rfl mfl_X5_62 rfl rfl dX5_passKey_4 ?_
  refine lv_iload_n hx hb dX5_passKey_7 rfl (lv_at hl 1 rfl) ?_
  refine lv_icmp_eq (tgt := 24) hx hb dX5_passKey_8 (by decide) (fun c1 => ?_) (fun c1 => ?_)
  · refine lv_pc (q := 24) rfl ?_
    refine lv_aload_n hx hb dX5_passKey_24 rfl (lv_at hl 0 rfl) ?_
    refine uGet (ci := 5) (C := RX5) (T := TX5) (N := 10) (v := .ref a_K) B inlX5 hP 0 rfl rfl 0 rfl mfl_X5_39 rfl rfl dX5_passKey_25 ?_
    refine uVv (As := []) (rest := []) (wr := [(a_E, .inr (5, [.ref a_K, .ref a_E_orderNames, .ref a_E_orderPlaces, .ref a_E_actNames, .ref a_E_actPlaces, .ref a_RB, .int v_E_minutesTold, .int v_E_lookTold, .int v_E_faultSort, .int v_E_faultPlace]))]) [(a_K, .inr (10, [.ref a_K_bytes, .ref a_K_keyNames, .int (nI v_K_size), .int (nI v_K_length), .int (nI v_K_next), .int (nI v_K_kind), .int (nI v_K_place), .int (nI v_K_number), .long v_K_name, .int v_K_key])), (a_K_bytes, .inl (K 0, 1000, .inl f_K_bytes)), (a_K_keyNames, .inl (K 2, 13, .inr (.inl f_K_keyNames)))] B hl.1 hP hD hS [1, 2, 3] [0] rfl rfl rfl (wX10_advance_vd l D K _ a_K v_K_size v_K_length v_K_next v_K_kind v_K_place v_K_number v_K_name v_K_key a_K_bytes f_K_bytes a_K_keyNames f_K_keyNames (by omega) (by omega) (by omega) (by omega) (by omega) (by omega) r_K_bytes i_urKN i_urTK) wd_X10_advance mml_X5_110 rfl rfl rfl rfl ⟨Nat.le_of_ble_eq_true rfl, Nat.le_of_ble_eq_true rfl⟩ (Nat.le_of_ble_eq_true rfl) ⟨Nat.le_of_ble_eq_true rfl, Nat.le_of_ble_eq_true rfl⟩ dX5_passKey_28 (fun u H locs hw hP hD hS => ?_)
    obtain ⟨u3, u4, u5, u6, u7, u8⟩ := u
    try dsimp only at hw
    obtain ⟨w9, w10, w11, w12, w13, w14⟩ := hw
    replace w9 : u3 ≤ 1000 := w9
    replace w10 : u4 ≤ 5 := w10
    replace w11 : u5 ≤ 1000 := w11
    replace w12 : u6 ≤ 1000 := w12
    replace w14 : u5 = urAd f_K_bytes v_K_length v_K_place := w14
    have hP : va_P D vwCl [(a_E, .inr (5, [.ref a_K, .ref a_E_orderNames, .ref a_E_orderPlaces, .ref a_E_actNames, .ref a_E_actPlaces, .ref a_RB, .int v_E_minutesTold, .int v_E_lookTold, .int v_E_faultSort, .int v_E_faultPlace])), (a_K, .inr (10, [.ref a_K_bytes, .ref a_K_keyNames, .int (nI v_K_size), .int (nI v_K_length), .int (nI u3), .int (nI u4), .int (nI u5), .int (nI u6), .long u7, .int u8])), (a_K_bytes, .inl (K 0, 1000, .inl f_K_bytes)), (a_K_keyNames, .inl (K 2, 13, .inr (.inl f_K_keyNames)))] H := hP
    have hD := uDPJ hP hD
    refine lv_iconst (v := 1) hx hb dX5_passKey_31 (by decide) ?_
    exact uRz (v_E_faultSort, v_E_faultPlace, u3, u4, u5, u6, u7, u8) B rfl ⟨Or.inr ⟨rfl, (urKeyT i_urTK c1 w14), i_urFS⟩, (by (try dsimp only); omega), (by (try dsimp only); omega), (by (try dsimp only); omega), (by (try dsimp only); omega), w13⟩ (uSub hP [0, 1, 2, 3] rfl) (hD.sub [0, 1, 2, 3] rfl rfl) hS dX5_passKey_32
  refine lv_pc (q := 11) rfl ?_
  refine lv_aload_n hx hb dX5_passKey_11 rfl (lv_at hl 0 rfl) ?_
  refine lv_iconst (v := 1) hx hb dX5_passKey_12 (by decide) ?_
  refine lv_aload_n hx hb dX5_passKey_13 rfl (lv_at hl 0 rfl) ?_
  refine uGet (ci := 5) (C := RX5) (T := TX5) (N := 10) (v := .ref a_K) B inlX5 hP 0 rfl rfl 0 rfl mfl_X5_39 rfl rfl dX5_passKey_14 ?_
  refine uGet (ci := 10) (C := RX10) (T := TX10) (N := 10) (v := .int (nI v_K_place)) B inlX10 hP 1 rfl rfl 6 rfl mfl_X5_59 rfl rfl dX5_passKey_17 ?_
  refine uVi (As := [.int 1, .int (nI v_K_place)]) (rest := []) (wr := [(a_K, .inr (10, [.ref a_K_bytes, .ref a_K_keyNames, .int (nI v_K_size), .int (nI v_K_length), .int (nI v_K_next), .int (nI v_K_kind), .int (nI v_K_place), .int (nI v_K_number), .long v_K_name, .int v_K_key])), (a_K_bytes, .inl (K 0, 1000, .inl f_K_bytes)), (a_K_keyNames, .inl (K 2, 13, .inr (.inl f_K_keyNames)))]) [(a_E, .inr (5, [.ref a_K, .ref a_E_orderNames, .ref a_E_orderPlaces, .ref a_E_actNames, .ref a_E_actPlaces, .ref a_RB, .int v_E_minutesTold, .int v_E_lookTold, .int v_E_faultSort, .int v_E_faultPlace]))] B hl.1 hP hD hS [0] [1, 2, 3] rfl rfl rfl (wX5_fail_vc l D K _ a_E v_E_minutesTold v_E_lookTold v_E_faultSort v_E_faultPlace a_K a_E_orderNames a_E_orderPlaces a_E_actNames a_E_actPlaces a_RB 1 (nI v_K_place) hv_E_minutesTold hv_E_lookTold) wd_X5_fail mml_X5_72 rfl rfl rfl rfl ⟨Nat.le_of_ble_eq_true rfl, Nat.le_of_ble_eq_true rfl⟩ (Nat.le_of_ble_eq_true rfl) ⟨Nat.le_of_ble_eq_true rfl, Nat.le_of_ble_eq_true rfl⟩ dX5_passKey_20 (fun r15 u H locs hw hP hD hS => ?_)
  try dsimp only at hw
  have w16 := hw
  have hP : va_P D vwCl [(a_K, .inr (10, [.ref a_K_bytes, .ref a_K_keyNames, .int (nI v_K_size), .int (nI v_K_length), .int (nI v_K_next), .int (nI v_K_kind), .int (nI v_K_place), .int (nI v_K_number), .long v_K_name, .int v_K_key])), (a_K_bytes, .inl (K 0, 1000, .inl f_K_bytes)), (a_K_keyNames, .inl (K 2, 13, .inr (.inl f_K_keyNames))), (a_E, .inr (5, [.ref a_K, .ref a_E_orderNames, .ref a_E_orderPlaces, .ref a_E_actNames, .ref a_E_actPlaces, .ref a_RB, .int v_E_minutesTold, .int v_E_lookTold, .int 1, .int (nI v_K_place)]))] H := hP
  have hD := uDPJ hP hD
  rcases w16 with rfl
  refine lv_pc (q := 23) rfl ?_
  exact uRz (1, nI v_K_place, v_K_next, v_K_kind, v_K_place, v_K_number, v_K_name, v_K_key) B rfl ⟨Or.inl ⟨rfl, (urKeyF i_urTK c1)⟩, (by (try dsimp only); omega), (by (try dsimp only); omega), (by (try dsimp only); omega), (by (try dsimp only); omega), i_urTK⟩ (uSub hP [3, 0, 1, 2] rfl) (hD.sub [3, 0, 1, 2] rfl rfl) hS dX5_passKey_23
def qwX5_atName_vc (a_E : Nat) (v_E_minutesTold : Int32) (v_E_lookTold : Int32) (v_E_faultSort : Int32) (v_E_faultPlace : Int32) (a_K : Nat) (v_K_size : Nat) (v_K_length : Nat) (v_K_next : Nat) (v_K_kind : Nat) (v_K_place : Nat) (v_K_number : Nat) (v_K_name : Int64) (v_K_key : Int32) (a_K_bytes : Nat) (f_K_bytes : Nat → Int32) (a_K_keyNames : Nat) (f_K_keyNames : Nat → Int64) (a_E_orderNames : Nat) (a_E_orderPlaces : Nat) (a_E_actNames : Nat) (a_E_actPlaces : Nat) (a_RB : Nat) : Int32 → (Int32 × Int32) → Prop := (fun (r : Int32) (u : Int32 × Int32) => ((r = 0 ∧ (urIs (urNam f_K_bytes v_K_length v_K_place) u.1 u.2)) ∨ (r = 1 ∧ (urKd f_K_bytes v_K_length v_K_place = 1 ∧ urKy f_K_bytes v_K_length v_K_place = -1) ∧ (urFs u.1 u.2))))
def vwX5_atName_vc (K : Nat → ClassId) (a_E : Nat) (v_E_minutesTold : Int32) (v_E_lookTold : Int32) (v_E_faultSort : Int32) (v_E_faultPlace : Int32) (a_K : Nat) (v_K_size : Nat) (v_K_length : Nat) (v_K_next : Nat) (v_K_kind : Nat) (v_K_place : Nat) (v_K_number : Nat) (v_K_name : Int64) (v_K_key : Int32) (a_K_bytes : Nat) (f_K_bytes : Nat → Int32) (a_K_keyNames : Nat) (f_K_keyNames : Nat → Int64) (a_E_orderNames : Nat) (a_E_orderPlaces : Nat) (a_E_actNames : Nat) (a_E_actPlaces : Nat) (a_RB : Nat) : (Int32 × Int32) → va_W := (fun (u : Int32 × Int32) => [(a_E, .inr (5, [.ref a_K, .ref a_E_orderNames, .ref a_E_orderPlaces, .ref a_E_actNames, .ref a_E_actPlaces, .ref a_RB, .int v_E_minutesTold, .int v_E_lookTold, .int u.1, .int u.2])), (a_K, .inr (10, [.ref a_K_bytes, .ref a_K_keyNames, .int (nI v_K_size), .int (nI v_K_length), .int (nI v_K_next), .int (nI v_K_kind), .int (nI v_K_place), .int (nI v_K_number), .long v_K_name, .int v_K_key])), (a_K_bytes, .inl (K 0, 1000, .inl f_K_bytes)), (a_K_keyNames, .inl (K 2, 13, .inr (.inl f_K_keyNames)))])
set_option maxHeartbeats 4000000 in
set_option maxRecDepth 100000 in
theorem wX5_atName_vc (l : Launch) (D : va_G) (K : Nat → ClassId) (sz : Nat) (a_E : Nat) (v_E_minutesTold : Int32) (v_E_lookTold : Int32) (v_E_faultSort : Int32) (v_E_faultPlace : Int32) (a_K : Nat) (v_K_size : Nat) (v_K_length : Nat) (v_K_next : Nat) (v_K_kind : Nat) (v_K_place : Nat) (v_K_number : Nat) (v_K_name : Int64) (v_K_key : Int32) (a_K_bytes : Nat) (f_K_bytes : Nat → Int32) (a_K_keyNames : Nat) (f_K_keyNames : Nat → Int64) (a_E_orderNames : Nat) (a_E_orderPlaces : Nat) (a_E_actNames : Nat) (a_E_actPlaces : Nat) (a_RB : Nat) (hv_E_minutesTold : v_E_minutesTold = 0 ∨ v_E_minutesTold = 1) (hv_E_lookTold : v_E_lookTold = 0 ∨ v_E_lookTold = 1) (hv_K_size : v_K_size ≤ 1000) (hv_K_length : v_K_length ≤ 1000) (hv_K_next : v_K_next ≤ 1000) (hv_K_kind : v_K_kind ≤ 5) (hv_K_place : v_K_place ≤ 1000) (hv_K_number : v_K_number ≤ 1000) (r_K_bytes : uRg f_K_bytes 0 255) (i_urKN : urKn f_K_keyNames) (i_urTK : urTk f_K_bytes v_K_length v_K_place v_K_next v_K_kind v_K_number v_K_name v_K_key) (i_urFS : urFs v_E_faultSort v_E_faultPlace) : uMi l yX5_atName cX5_atName 1 (some .boolean) { frames := 1, cells := 0, slots := 0, locals := 22 } [.ref a_E] D K [(a_E, .inr (5, [.ref a_K, .ref a_E_orderNames, .ref a_E_orderPlaces, .ref a_E_actNames, .ref a_E_actPlaces, .ref a_RB, .int v_E_minutesTold, .int v_E_lookTold, .int v_E_faultSort, .int v_E_faultPlace])), (a_K, .inr (10, [.ref a_K_bytes, .ref a_K_keyNames, .int (nI v_K_size), .int (nI v_K_length), .int (nI v_K_next), .int (nI v_K_kind), .int (nI v_K_place), .int (nI v_K_number), .long v_K_name, .int v_K_key])), (a_K_bytes, .inl (K 0, 1000, .inl f_K_bytes)), (a_K_keyNames, .inl (K 2, 13, .inr (.inl f_K_keyNames)))] sz (qwX5_atName_vc a_E v_E_minutesTold v_E_lookTold v_E_faultSort v_E_faultPlace a_K v_K_size v_K_length v_K_next v_K_kind v_K_place v_K_number v_K_name v_K_key a_K_bytes f_K_bytes a_K_keyNames f_K_keyNames a_E_orderNames a_E_orderPlaces a_E_actNames a_E_actPlaces a_RB) (vwX5_atName_vc K a_E v_E_minutesTold v_E_lookTold v_E_faultSort v_E_faultPlace a_K v_K_size v_K_length v_K_next v_K_kind v_K_place v_K_number v_K_name v_K_key a_K_bytes f_K_bytes a_K_keyNames f_K_keyNames a_E_orderNames a_E_orderPlaces a_E_actNames a_E_actPlaces a_RB) := by
  refine uMet (Qc := uQi D (qwX5_atName_vc a_E v_E_minutesTold v_E_lookTold v_E_faultSort v_E_faultPlace a_K v_K_size v_K_length v_K_next v_K_kind v_K_place v_K_number v_K_name v_K_key a_K_bytes f_K_bytes a_K_keyNames f_K_keyNames a_E_orderNames a_E_orderPlaces a_E_actNames a_E_actPlaces a_RB) (vwX5_atName_vc K a_E v_E_minutesTold v_E_lookTold v_E_faultSort v_E_faultPlace a_K v_K_size v_K_length v_K_next v_K_kind v_K_place v_K_number v_K_name v_K_key a_K_bytes f_K_bytes a_K_keyNames f_K_keyNames a_E_orderNames a_E_orderPlaces a_E_actNames a_E_actPlaces a_RB)) (ret := (some .boolean)) (by decide) (Nat.le_of_ble_eq_true rfl) ?_
  intro p e s m below meth c A ls hAe hsz B hP hD hS hl
  have hx := B.1
  have hb := B.2.1
  have hl : lv_has ls 1 [(0, .ref a_E)] := hl
  refine lv_aload_n hx hb dX5_atName_0 rfl (lv_at hl 0 rfl) ?_
  refine uGet (ci := 5) (C := RX5) (T := TX5) (N := 10) (v := .ref a_K) B inlX5 hP 0 rfl rfl 0 rfl mfl_X5_39 rfl rfl dX5_atName_1 ?_
  refine uGet (ci := 10) (C := RX10) (T := TX10) (N := 10) (v := .int (nI v_K_kind)) B inlX10 hP 1 rfl rfl 5 rfl mfl_X5_54 rfl rfl dX5_atName_4 ?_
  refine lv_iconst (v := 1) hx hb dX5_atName_7 (by decide) ?_
  refine lv_icmp_ne (tgt := 22) hx hb dX5_atName_8 (by decide) (fun c1 => ?_) (fun c1 => ?_)
  · have k_1 : ¬ v_K_kind = 1 := fun h9 => c1 ((nI_eq (a := v_K_kind) (b := 1) (by omega) (by omega)).mpr h9)
    refine lv_pc (q := 22) rfl ?_
    refine lv_aload_n hx hb dX5_atName_22 rfl (lv_at hl 0 rfl) ?_
    refine lv_iconst (v := 1) hx hb dX5_atName_23 (by decide) ?_
    refine lv_aload_n hx hb dX5_atName_24 rfl (lv_at hl 0 rfl) ?_
    refine uGet (ci := 5) (C := RX5) (T := TX5) (N := 10) (v := .ref a_K) B inlX5 hP 0 rfl rfl 0 rfl mfl_X5_39 rfl rfl dX5_atName_25 ?_
    refine uGet (ci := 10) (C := RX10) (T := TX10) (N := 10) (v := .int (nI v_K_place)) B inlX10 hP 1 rfl rfl 6 rfl mfl_X5_59 rfl rfl dX5_atName_28 ?_
    refine uVi (As := [.int 1, .int (nI v_K_place)]) (rest := []) (wr := [(a_K, .inr (10, [.ref a_K_bytes, .ref a_K_keyNames, .int (nI v_K_size), .int (nI v_K_length), .int (nI v_K_next), .int (nI v_K_kind), .int (nI v_K_place), .int (nI v_K_number), .long v_K_name, .int v_K_key])), (a_K_bytes, .inl (K 0, 1000, .inl f_K_bytes)), (a_K_keyNames, .inl (K 2, 13, .inr (.inl f_K_keyNames)))]) [(a_E, .inr (5, [.ref a_K, .ref a_E_orderNames, .ref a_E_orderPlaces, .ref a_E_actNames, .ref a_E_actPlaces, .ref a_RB, .int v_E_minutesTold, .int v_E_lookTold, .int v_E_faultSort, .int v_E_faultPlace]))] B hl.1 hP hD hS [0] [1, 2, 3] rfl rfl rfl (wX5_fail_vc l D K _ a_E v_E_minutesTold v_E_lookTold v_E_faultSort v_E_faultPlace a_K a_E_orderNames a_E_orderPlaces a_E_actNames a_E_actPlaces a_RB 1 (nI v_K_place) hv_E_minutesTold hv_E_lookTold) wd_X5_fail mml_X5_72 rfl rfl rfl rfl ⟨Nat.le_of_ble_eq_true rfl, Nat.le_of_ble_eq_true rfl⟩ (Nat.le_of_ble_eq_true rfl) ⟨Nat.le_of_ble_eq_true rfl, Nat.le_of_ble_eq_true rfl⟩ dX5_atName_31 (fun r2 u H locs hw hP hD hS => ?_)
    try dsimp only at hw
    have w3 := hw
    have hP : va_P D vwCl [(a_K, .inr (10, [.ref a_K_bytes, .ref a_K_keyNames, .int (nI v_K_size), .int (nI v_K_length), .int (nI v_K_next), .int (nI v_K_kind), .int (nI v_K_place), .int (nI v_K_number), .long v_K_name, .int v_K_key])), (a_K_bytes, .inl (K 0, 1000, .inl f_K_bytes)), (a_K_keyNames, .inl (K 2, 13, .inr (.inl f_K_keyNames))), (a_E, .inr (5, [.ref a_K, .ref a_E_orderNames, .ref a_E_orderPlaces, .ref a_E_actNames, .ref a_E_actPlaces, .ref a_RB, .int v_E_minutesTold, .int v_E_lookTold, .int 1, .int (nI v_K_place)]))] H := hP
    have hD := uDPJ hP hD
    rcases w3 with rfl
    refine lv_pc (q := 34) rfl ?_
    refine lv_if_eq (tgt := 41) hx hb dX5_atName_34 (by decide) (fun _ => ?_) (fun h9 => absurd (by decide) h9)
    refine lv_iconst (v := 0) hx hb dX5_atName_41 (by decide) ?_
    exact uRz (1, nI v_K_place) B rfl (Or.inl ⟨rfl, (urNamF i_urTK (Or.inl k_1))⟩) (uSub hP [3, 0, 1, 2] rfl) (hD.sub [3, 0, 1, 2] rfl rfl) hS dX5_atName_42
  have k_1 : v_K_kind = 1 := (nI_eq (a := v_K_kind) (b := 1) (by omega) (by omega)).mp c1
  refine lv_pc (q := 11) rfl ?_
  refine lv_aload_n hx hb dX5_atName_11 rfl (lv_at hl 0 rfl) ?_
  refine uGet (ci := 5) (C := RX5) (T := TX5) (N := 10) (v := .ref a_K) B inlX5 hP 0 rfl rfl 0 rfl mfl_X5_39 rfl rfl dX5_atName_12 ?_
  refine uGet (ci := 10) (C := RX10) (T := TX10) (N := 10) (v := .int v_K_key) B inlX10 hP 1 rfl rfl 9 rfl mfl_X5_62 rfl rfl dX5_atName_15 ?_
  refine lv_iconst (v := (-1)) hx hb dX5_atName_18 (by decide) ?_
  refine lv_icmp_eq (tgt := 37) hx hb dX5_atName_19 (by decide) (fun c4 => ?_) (fun c4 => ?_)
  · refine lv_iconst (v := 1) hx hb dX5_atName_37 (by decide) ?_
    refine lv_pc (q := 38) rfl ?_
    refine lv_goto (tgt := 42) hx hb dX5_atName_38 (by decide) ?_
    exact uRz (v_E_faultSort, v_E_faultPlace) B rfl (Or.inr ⟨rfl, (urNamT i_urTK k_1 c4), i_urFS⟩) (uSub hP [0, 1, 2, 3] rfl) (hD.sub [0, 1, 2, 3] rfl rfl) hS dX5_atName_42
  refine lv_aload_n hx hb dX5_atName_22 rfl (lv_at hl 0 rfl) ?_
  refine lv_pc (q := 23) rfl ?_
  refine lv_iconst (v := 1) hx hb dX5_atName_23 (by decide) ?_
  refine lv_aload_n hx hb dX5_atName_24 rfl (lv_at hl 0 rfl) ?_
  refine uGet (ci := 5) (C := RX5) (T := TX5) (N := 10) (v := .ref a_K) B inlX5 hP 0 rfl rfl 0 rfl mfl_X5_39 rfl rfl dX5_atName_25 ?_
  refine uGet (ci := 10) (C := RX10) (T := TX10) (N := 10) (v := .int (nI v_K_place)) B inlX10 hP 1 rfl rfl 6 rfl mfl_X5_59 rfl rfl dX5_atName_28 ?_
  refine uVi (As := [.int 1, .int (nI v_K_place)]) (rest := []) (wr := [(a_K, .inr (10, [.ref a_K_bytes, .ref a_K_keyNames, .int (nI v_K_size), .int (nI v_K_length), .int (nI v_K_next), .int (nI v_K_kind), .int (nI v_K_place), .int (nI v_K_number), .long v_K_name, .int v_K_key])), (a_K_bytes, .inl (K 0, 1000, .inl f_K_bytes)), (a_K_keyNames, .inl (K 2, 13, .inr (.inl f_K_keyNames)))]) [(a_E, .inr (5, [.ref a_K, .ref a_E_orderNames, .ref a_E_orderPlaces, .ref a_E_actNames, .ref a_E_actPlaces, .ref a_RB, .int v_E_minutesTold, .int v_E_lookTold, .int v_E_faultSort, .int v_E_faultPlace]))] B hl.1 hP hD hS [0] [1, 2, 3] rfl rfl rfl (wX5_fail_vc l D K _ a_E v_E_minutesTold v_E_lookTold v_E_faultSort v_E_faultPlace a_K a_E_orderNames a_E_orderPlaces a_E_actNames a_E_actPlaces a_RB 1 (nI v_K_place) hv_E_minutesTold hv_E_lookTold) wd_X5_fail mml_X5_72 rfl rfl rfl rfl ⟨Nat.le_of_ble_eq_true rfl, Nat.le_of_ble_eq_true rfl⟩ (Nat.le_of_ble_eq_true rfl) ⟨Nat.le_of_ble_eq_true rfl, Nat.le_of_ble_eq_true rfl⟩ dX5_atName_31 (fun r5 u H locs hw hP hD hS => ?_)
  try dsimp only at hw
  have w6 := hw
  have hP : va_P D vwCl [(a_K, .inr (10, [.ref a_K_bytes, .ref a_K_keyNames, .int (nI v_K_size), .int (nI v_K_length), .int (nI v_K_next), .int (nI v_K_kind), .int (nI v_K_place), .int (nI v_K_number), .long v_K_name, .int v_K_key])), (a_K_bytes, .inl (K 0, 1000, .inl f_K_bytes)), (a_K_keyNames, .inl (K 2, 13, .inr (.inl f_K_keyNames))), (a_E, .inr (5, [.ref a_K, .ref a_E_orderNames, .ref a_E_orderPlaces, .ref a_E_actNames, .ref a_E_actPlaces, .ref a_RB, .int v_E_minutesTold, .int v_E_lookTold, .int 1, .int (nI v_K_place)]))] H := hP
  have hD := uDPJ hP hD
  rcases w6 with rfl
  refine lv_if_eq (tgt := 41) hx hb dX5_atName_34 (by decide) (fun _ => ?_) (fun h9 => absurd (by decide) h9)
  refine lv_pc (q := 41) rfl ?_
  refine lv_iconst (v := 0) hx hb dX5_atName_41 (by decide) ?_
  exact uRz (1, nI v_K_place) B rfl (Or.inl ⟨rfl, (urNamF i_urTK (Or.inr c4))⟩) (uSub hP [3, 0, 1, 2] rfl) (hD.sub [3, 0, 1, 2] rfl rfl) hS dX5_atName_42
def qwX5_atNumber_vc (a_E : Nat) (v_E_minutesTold : Int32) (v_E_lookTold : Int32) (v_E_faultSort : Int32) (v_E_faultPlace : Int32) (a_K : Nat) (v_K_size : Nat) (v_K_length : Nat) (v_K_next : Nat) (v_K_kind : Nat) (v_K_place : Nat) (v_K_number : Nat) (v_K_name : Int64) (v_K_key : Int32) (a_K_bytes : Nat) (f_K_bytes : Nat → Int32) (a_K_keyNames : Nat) (f_K_keyNames : Nat → Int64) (a_E_orderNames : Nat) (a_E_orderPlaces : Nat) (a_E_actNames : Nat) (a_E_actPlaces : Nat) (a_RB : Nat) (x0 : Nat) (x1 : Nat) : Int32 → (Int32 × Int32) → Prop := (fun (r : Int32) (u : Int32 × Int32) => ((r = 0 ∧ (urIs (urNum f_K_bytes v_K_length x0 x1 v_K_place) u.1 u.2)) ∨ (r = 1 ∧ (urKd f_K_bytes v_K_length v_K_place = 2 ∧ (x0 ≤ urNu f_K_bytes v_K_length v_K_place ∧ urNu f_K_bytes v_K_length v_K_place ≤ x1) ∧ v_K_number = urNu f_K_bytes v_K_length v_K_place) ∧ (v_K_number ≤ x1) ∧ (x0 ≤ v_K_number) ∧ (urFs u.1 u.2))))
def vwX5_atNumber_vc (K : Nat → ClassId) (a_E : Nat) (v_E_minutesTold : Int32) (v_E_lookTold : Int32) (v_E_faultSort : Int32) (v_E_faultPlace : Int32) (a_K : Nat) (v_K_size : Nat) (v_K_length : Nat) (v_K_next : Nat) (v_K_kind : Nat) (v_K_place : Nat) (v_K_number : Nat) (v_K_name : Int64) (v_K_key : Int32) (a_K_bytes : Nat) (f_K_bytes : Nat → Int32) (a_K_keyNames : Nat) (f_K_keyNames : Nat → Int64) (a_E_orderNames : Nat) (a_E_orderPlaces : Nat) (a_E_actNames : Nat) (a_E_actPlaces : Nat) (a_RB : Nat) (x0 : Nat) (x1 : Nat) : (Int32 × Int32) → va_W := (fun (u : Int32 × Int32) => [(a_E, .inr (5, [.ref a_K, .ref a_E_orderNames, .ref a_E_orderPlaces, .ref a_E_actNames, .ref a_E_actPlaces, .ref a_RB, .int v_E_minutesTold, .int v_E_lookTold, .int u.1, .int u.2])), (a_K, .inr (10, [.ref a_K_bytes, .ref a_K_keyNames, .int (nI v_K_size), .int (nI v_K_length), .int (nI v_K_next), .int (nI v_K_kind), .int (nI v_K_place), .int (nI v_K_number), .long v_K_name, .int v_K_key])), (a_K_bytes, .inl (K 0, 1000, .inl f_K_bytes)), (a_K_keyNames, .inl (K 2, 13, .inr (.inl f_K_keyNames)))])
set_option maxHeartbeats 4000000 in
set_option maxRecDepth 100000 in
theorem wX5_atNumber_vc (l : Launch) (D : va_G) (K : Nat → ClassId) (sz : Nat) (a_E : Nat) (v_E_minutesTold : Int32) (v_E_lookTold : Int32) (v_E_faultSort : Int32) (v_E_faultPlace : Int32) (a_K : Nat) (v_K_size : Nat) (v_K_length : Nat) (v_K_next : Nat) (v_K_kind : Nat) (v_K_place : Nat) (v_K_number : Nat) (v_K_name : Int64) (v_K_key : Int32) (a_K_bytes : Nat) (f_K_bytes : Nat → Int32) (a_K_keyNames : Nat) (f_K_keyNames : Nat → Int64) (a_E_orderNames : Nat) (a_E_orderPlaces : Nat) (a_E_actNames : Nat) (a_E_actPlaces : Nat) (a_RB : Nat) (x0 : Nat) (x1 : Nat) (hv_E_minutesTold : v_E_minutesTold = 0 ∨ v_E_minutesTold = 1) (hv_E_lookTold : v_E_lookTold = 0 ∨ v_E_lookTold = 1) (hv_K_size : v_K_size ≤ 1000) (hv_K_length : v_K_length ≤ 1000) (hv_K_next : v_K_next ≤ 1000) (hv_K_kind : v_K_kind ≤ 5) (hv_K_place : v_K_place ≤ 1000) (hv_K_number : v_K_number ≤ 1000) (r_K_bytes : uRg f_K_bytes 0 255) (hx0 : x0 < 1000) (hx1 : x1 < 1000) (i_urKN : urKn f_K_keyNames) (i_urTK : urTk f_K_bytes v_K_length v_K_place v_K_next v_K_kind v_K_number v_K_name v_K_key) (i_urFS : urFs v_E_faultSort v_E_faultPlace) : uMi l yX5_atNumber cX5_atNumber 3 (some .boolean) { frames := 1, cells := 0, slots := 0, locals := 22 } [.ref a_E, .int (nI x0), .int (nI x1)] D K [(a_E, .inr (5, [.ref a_K, .ref a_E_orderNames, .ref a_E_orderPlaces, .ref a_E_actNames, .ref a_E_actPlaces, .ref a_RB, .int v_E_minutesTold, .int v_E_lookTold, .int v_E_faultSort, .int v_E_faultPlace])), (a_K, .inr (10, [.ref a_K_bytes, .ref a_K_keyNames, .int (nI v_K_size), .int (nI v_K_length), .int (nI v_K_next), .int (nI v_K_kind), .int (nI v_K_place), .int (nI v_K_number), .long v_K_name, .int v_K_key])), (a_K_bytes, .inl (K 0, 1000, .inl f_K_bytes)), (a_K_keyNames, .inl (K 2, 13, .inr (.inl f_K_keyNames)))] sz (qwX5_atNumber_vc a_E v_E_minutesTold v_E_lookTold v_E_faultSort v_E_faultPlace a_K v_K_size v_K_length v_K_next v_K_kind v_K_place v_K_number v_K_name v_K_key a_K_bytes f_K_bytes a_K_keyNames f_K_keyNames a_E_orderNames a_E_orderPlaces a_E_actNames a_E_actPlaces a_RB x0 x1) (vwX5_atNumber_vc K a_E v_E_minutesTold v_E_lookTold v_E_faultSort v_E_faultPlace a_K v_K_size v_K_length v_K_next v_K_kind v_K_place v_K_number v_K_name v_K_key a_K_bytes f_K_bytes a_K_keyNames f_K_keyNames a_E_orderNames a_E_orderPlaces a_E_actNames a_E_actPlaces a_RB x0 x1) := by
  refine uMet (Qc := uQi D (qwX5_atNumber_vc a_E v_E_minutesTold v_E_lookTold v_E_faultSort v_E_faultPlace a_K v_K_size v_K_length v_K_next v_K_kind v_K_place v_K_number v_K_name v_K_key a_K_bytes f_K_bytes a_K_keyNames f_K_keyNames a_E_orderNames a_E_orderPlaces a_E_actNames a_E_actPlaces a_RB x0 x1) (vwX5_atNumber_vc K a_E v_E_minutesTold v_E_lookTold v_E_faultSort v_E_faultPlace a_K v_K_size v_K_length v_K_next v_K_kind v_K_place v_K_number v_K_name v_K_key a_K_bytes f_K_bytes a_K_keyNames f_K_keyNames a_E_orderNames a_E_orderPlaces a_E_actNames a_E_actPlaces a_RB x0 x1)) (ret := (some .boolean)) (by decide) (Nat.le_of_ble_eq_true rfl) ?_
  intro p e s m below meth c A ls hAe hsz B hP hD hS hl
  have hx := B.1
  have hb := B.2.1
  have hl : lv_has ls 3 [(0, .ref a_E), (1, .int (nI x0)), (2, .int (nI x1))] := hl
  refine lv_aload_n hx hb dX5_atNumber_0 rfl (lv_at hl 0 rfl) ?_
  refine uGet (ci := 5) (C := RX5) (T := TX5) (N := 10) (v := .ref a_K) B inlX5 hP 0 rfl rfl 0 rfl mfl_X5_39 rfl rfl dX5_atNumber_1 ?_
  refine uGet (ci := 10) (C := RX10) (T := TX10) (N := 10) (v := .int (nI v_K_kind)) B inlX10 hP 1 rfl rfl 5 rfl mfl_X5_54 rfl rfl dX5_atNumber_4 ?_
  refine lv_iconst (v := 2) hx hb dX5_atNumber_7 (by decide) ?_
  refine lv_icmp_eq (tgt := 24) hx hb dX5_atNumber_8 (by decide) (fun c1 => ?_) (fun c1 => ?_)
  · have k_1 : v_K_kind = 2 := (nI_eq (a := v_K_kind) (b := 2) (by omega) (by omega)).mp c1
    refine lv_pc (q := 24) rfl ?_
    refine lv_aload_n hx hb dX5_atNumber_24 rfl (lv_at hl 0 rfl) ?_
    refine uGet (ci := 5) (C := RX5) (T := TX5) (N := 10) (v := .ref a_K) B inlX5 hP 0 rfl rfl 0 rfl mfl_X5_39 rfl rfl dX5_atNumber_25 ?_
    refine uGet (ci := 10) (C := RX10) (T := TX10) (N := 10) (v := .int (nI v_K_number)) B inlX10 hP 1 rfl rfl 7 rfl mfl_X5_113 rfl rfl dX5_atNumber_28 ?_
    refine lv_iload_n hx hb dX5_atNumber_31 rfl (lv_at hl 1 rfl) ?_
    refine lv_icmp_lt (tgt := 46) hx hb dX5_atNumber_32 (by decide) (fun c2 => ?_) (fun c2 => ?_)
    · have k_2 : v_K_number < x0 := (nI_ltI (a := v_K_number) (b := x0) (by omega) (by omega)).mp c2
      refine lv_aload_n hx hb dX5_atNumber_46 rfl (lv_at hl 0 rfl) ?_
      refine lv_pc (q := 47) rfl ?_
      refine lv_iconst (v := 2) hx hb dX5_atNumber_47 (by decide) ?_
      refine lv_aload_n hx hb dX5_atNumber_48 rfl (lv_at hl 0 rfl) ?_
      refine uGet (ci := 5) (C := RX5) (T := TX5) (N := 10) (v := .ref a_K) B inlX5 hP 0 rfl rfl 0 rfl mfl_X5_39 rfl rfl dX5_atNumber_49 ?_
      refine uGet (ci := 10) (C := RX10) (T := TX10) (N := 10) (v := .int (nI v_K_place)) B inlX10 hP 1 rfl rfl 6 rfl mfl_X5_59 rfl rfl dX5_atNumber_52 ?_
      refine uVi (As := [.int 2, .int (nI v_K_place)]) (rest := []) (wr := [(a_K, .inr (10, [.ref a_K_bytes, .ref a_K_keyNames, .int (nI v_K_size), .int (nI v_K_length), .int (nI v_K_next), .int (nI v_K_kind), .int (nI v_K_place), .int (nI v_K_number), .long v_K_name, .int v_K_key])), (a_K_bytes, .inl (K 0, 1000, .inl f_K_bytes)), (a_K_keyNames, .inl (K 2, 13, .inr (.inl f_K_keyNames)))]) [(a_E, .inr (5, [.ref a_K, .ref a_E_orderNames, .ref a_E_orderPlaces, .ref a_E_actNames, .ref a_E_actPlaces, .ref a_RB, .int v_E_minutesTold, .int v_E_lookTold, .int v_E_faultSort, .int v_E_faultPlace]))] B hl.1 hP hD hS [0] [1, 2, 3] rfl rfl rfl (wX5_fail_vc l D K _ a_E v_E_minutesTold v_E_lookTold v_E_faultSort v_E_faultPlace a_K a_E_orderNames a_E_orderPlaces a_E_actNames a_E_actPlaces a_RB 2 (nI v_K_place) hv_E_minutesTold hv_E_lookTold) wd_X5_fail mml_X5_72 rfl rfl rfl rfl ⟨Nat.le_of_ble_eq_true rfl, Nat.le_of_ble_eq_true rfl⟩ (Nat.le_of_ble_eq_true rfl) ⟨Nat.le_of_ble_eq_true rfl, Nat.le_of_ble_eq_true rfl⟩ dX5_atNumber_55 (fun r3 u H locs hw hP hD hS => ?_)
      try dsimp only at hw
      have w4 := hw
      have hP : va_P D vwCl [(a_K, .inr (10, [.ref a_K_bytes, .ref a_K_keyNames, .int (nI v_K_size), .int (nI v_K_length), .int (nI v_K_next), .int (nI v_K_kind), .int (nI v_K_place), .int (nI v_K_number), .long v_K_name, .int v_K_key])), (a_K_bytes, .inl (K 0, 1000, .inl f_K_bytes)), (a_K_keyNames, .inl (K 2, 13, .inr (.inl f_K_keyNames))), (a_E, .inr (5, [.ref a_K, .ref a_E_orderNames, .ref a_E_orderPlaces, .ref a_E_actNames, .ref a_E_actPlaces, .ref a_RB, .int v_E_minutesTold, .int v_E_lookTold, .int 2, .int (nI v_K_place)]))] H := hP
      have hD := uDPJ hP hD
      rcases w4 with rfl
      refine lv_if_eq (tgt := 65) hx hb dX5_atNumber_58 (by decide) (fun _ => ?_) (fun h9 => absurd (by decide) h9)
      refine lv_pc (q := 65) rfl ?_
      refine lv_iconst (v := 0) hx hb dX5_atNumber_65 (by decide) ?_
      exact uRz (2, nI v_K_place) B rfl (Or.inl ⟨rfl, (urNumF2 i_urTK k_1 (by omega))⟩) (uSub hP [3, 0, 1, 2] rfl) (hD.sub [3, 0, 1, 2] rfl rfl) hS dX5_atNumber_66
    have k_2 : ¬ v_K_number < x0 := fun h9 => c2 ((nI_ltI (a := v_K_number) (b := x0) (by omega) (by omega)).mpr h9)
    refine lv_aload_n hx hb dX5_atNumber_35 rfl (lv_at hl 0 rfl) ?_
    refine lv_pc (q := 36) rfl ?_
    refine uGet (ci := 5) (C := RX5) (T := TX5) (N := 10) (v := .ref a_K) B inlX5 hP 0 rfl rfl 0 rfl mfl_X5_39 rfl rfl dX5_atNumber_36 ?_
    refine uGet (ci := 10) (C := RX10) (T := TX10) (N := 10) (v := .int (nI v_K_number)) B inlX10 hP 1 rfl rfl 7 rfl mfl_X5_113 rfl rfl dX5_atNumber_39 ?_
    refine lv_iload_n hx hb dX5_atNumber_42 rfl (lv_at hl 2 rfl) ?_
    refine lv_icmp_le (tgt := 61) hx hb dX5_atNumber_43 (by decide) (fun c5 => ?_) (fun c5 => ?_)
    · have k_5 : v_K_number ≤ x1 := (nI_leI (a := v_K_number) (b := x1) (by omega) (by omega)).mp c5
      refine lv_iconst (v := 1) hx hb dX5_atNumber_61 (by decide) ?_
      refine lv_goto (tgt := 66) hx hb dX5_atNumber_62 (by decide) ?_
      refine lv_pc (q := 66) rfl ?_
      exact uRz (v_E_faultSort, v_E_faultPlace) B rfl (Or.inr ⟨rfl, (urNumT i_urTK k_1 (by omega) (by omega)), k_5, (by first | omega | (dsimp only; omega)), i_urFS⟩) (uSub hP [0, 1, 2, 3] rfl) (hD.sub [0, 1, 2, 3] rfl rfl) hS dX5_atNumber_66
    have k_5 : ¬ v_K_number ≤ x1 := fun h9 => c5 ((nI_leI (a := v_K_number) (b := x1) (by omega) (by omega)).mpr h9)
    refine lv_aload_n hx hb dX5_atNumber_46 rfl (lv_at hl 0 rfl) ?_
    refine lv_iconst (v := 2) hx hb dX5_atNumber_47 (by decide) ?_
    refine lv_pc (q := 48) rfl ?_
    refine lv_aload_n hx hb dX5_atNumber_48 rfl (lv_at hl 0 rfl) ?_
    refine uGet (ci := 5) (C := RX5) (T := TX5) (N := 10) (v := .ref a_K) B inlX5 hP 0 rfl rfl 0 rfl mfl_X5_39 rfl rfl dX5_atNumber_49 ?_
    refine uGet (ci := 10) (C := RX10) (T := TX10) (N := 10) (v := .int (nI v_K_place)) B inlX10 hP 1 rfl rfl 6 rfl mfl_X5_59 rfl rfl dX5_atNumber_52 ?_
    refine uVi (As := [.int 2, .int (nI v_K_place)]) (rest := []) (wr := [(a_K, .inr (10, [.ref a_K_bytes, .ref a_K_keyNames, .int (nI v_K_size), .int (nI v_K_length), .int (nI v_K_next), .int (nI v_K_kind), .int (nI v_K_place), .int (nI v_K_number), .long v_K_name, .int v_K_key])), (a_K_bytes, .inl (K 0, 1000, .inl f_K_bytes)), (a_K_keyNames, .inl (K 2, 13, .inr (.inl f_K_keyNames)))]) [(a_E, .inr (5, [.ref a_K, .ref a_E_orderNames, .ref a_E_orderPlaces, .ref a_E_actNames, .ref a_E_actPlaces, .ref a_RB, .int v_E_minutesTold, .int v_E_lookTold, .int v_E_faultSort, .int v_E_faultPlace]))] B hl.1 hP hD hS [0] [1, 2, 3] rfl rfl rfl (wX5_fail_vc l D K _ a_E v_E_minutesTold v_E_lookTold v_E_faultSort v_E_faultPlace a_K a_E_orderNames a_E_orderPlaces a_E_actNames a_E_actPlaces a_RB 2 (nI v_K_place) hv_E_minutesTold hv_E_lookTold) wd_X5_fail mml_X5_72 rfl rfl rfl rfl ⟨Nat.le_of_ble_eq_true rfl, Nat.le_of_ble_eq_true rfl⟩ (Nat.le_of_ble_eq_true rfl) ⟨Nat.le_of_ble_eq_true rfl, Nat.le_of_ble_eq_true rfl⟩ dX5_atNumber_55 (fun r6 u H locs hw hP hD hS => ?_)
    try dsimp only at hw
    have w7 := hw
    have hP : va_P D vwCl [(a_K, .inr (10, [.ref a_K_bytes, .ref a_K_keyNames, .int (nI v_K_size), .int (nI v_K_length), .int (nI v_K_next), .int (nI v_K_kind), .int (nI v_K_place), .int (nI v_K_number), .long v_K_name, .int v_K_key])), (a_K_bytes, .inl (K 0, 1000, .inl f_K_bytes)), (a_K_keyNames, .inl (K 2, 13, .inr (.inl f_K_keyNames))), (a_E, .inr (5, [.ref a_K, .ref a_E_orderNames, .ref a_E_orderPlaces, .ref a_E_actNames, .ref a_E_actPlaces, .ref a_RB, .int v_E_minutesTold, .int v_E_lookTold, .int 2, .int (nI v_K_place)]))] H := hP
    have hD := uDPJ hP hD
    rcases w7 with rfl
    refine lv_if_eq (tgt := 65) hx hb dX5_atNumber_58 (by decide) (fun _ => ?_) (fun h9 => absurd (by decide) h9)
    refine lv_iconst (v := 0) hx hb dX5_atNumber_65 (by decide) ?_
    refine lv_pc (q := 66) rfl ?_
    exact uRz (2, nI v_K_place) B rfl (Or.inl ⟨rfl, (urNumF2 i_urTK k_1 (by omega))⟩) (uSub hP [3, 0, 1, 2] rfl) (hD.sub [3, 0, 1, 2] rfl rfl) hS dX5_atNumber_66
  have k_1 : ¬ v_K_kind = 2 := fun h9 => c1 ((nI_eq (a := v_K_kind) (b := 2) (by omega) (by omega)).mpr h9)
  refine lv_pc (q := 11) rfl ?_
  refine lv_aload_n hx hb dX5_atNumber_11 rfl (lv_at hl 0 rfl) ?_
  refine lv_iconst (v := 1) hx hb dX5_atNumber_12 (by decide) ?_
  refine lv_aload_n hx hb dX5_atNumber_13 rfl (lv_at hl 0 rfl) ?_
  refine uGet (ci := 5) (C := RX5) (T := TX5) (N := 10) (v := .ref a_K) B inlX5 hP 0 rfl rfl 0 rfl mfl_X5_39 rfl rfl dX5_atNumber_14 ?_
  refine uGet (ci := 10) (C := RX10) (T := TX10) (N := 10) (v := .int (nI v_K_place)) B inlX10 hP 1 rfl rfl 6 rfl mfl_X5_59 rfl rfl dX5_atNumber_17 ?_
  refine uVi (As := [.int 1, .int (nI v_K_place)]) (rest := []) (wr := [(a_K, .inr (10, [.ref a_K_bytes, .ref a_K_keyNames, .int (nI v_K_size), .int (nI v_K_length), .int (nI v_K_next), .int (nI v_K_kind), .int (nI v_K_place), .int (nI v_K_number), .long v_K_name, .int v_K_key])), (a_K_bytes, .inl (K 0, 1000, .inl f_K_bytes)), (a_K_keyNames, .inl (K 2, 13, .inr (.inl f_K_keyNames)))]) [(a_E, .inr (5, [.ref a_K, .ref a_E_orderNames, .ref a_E_orderPlaces, .ref a_E_actNames, .ref a_E_actPlaces, .ref a_RB, .int v_E_minutesTold, .int v_E_lookTold, .int v_E_faultSort, .int v_E_faultPlace]))] B hl.1 hP hD hS [0] [1, 2, 3] rfl rfl rfl (wX5_fail_vc l D K _ a_E v_E_minutesTold v_E_lookTold v_E_faultSort v_E_faultPlace a_K a_E_orderNames a_E_orderPlaces a_E_actNames a_E_actPlaces a_RB 1 (nI v_K_place) hv_E_minutesTold hv_E_lookTold) wd_X5_fail mml_X5_72 rfl rfl rfl rfl ⟨Nat.le_of_ble_eq_true rfl, Nat.le_of_ble_eq_true rfl⟩ (Nat.le_of_ble_eq_true rfl) ⟨Nat.le_of_ble_eq_true rfl, Nat.le_of_ble_eq_true rfl⟩ dX5_atNumber_20 (fun r8 u H locs hw hP hD hS => ?_)
  try dsimp only at hw
  have w9 := hw
  have hP : va_P D vwCl [(a_K, .inr (10, [.ref a_K_bytes, .ref a_K_keyNames, .int (nI v_K_size), .int (nI v_K_length), .int (nI v_K_next), .int (nI v_K_kind), .int (nI v_K_place), .int (nI v_K_number), .long v_K_name, .int v_K_key])), (a_K_bytes, .inl (K 0, 1000, .inl f_K_bytes)), (a_K_keyNames, .inl (K 2, 13, .inr (.inl f_K_keyNames))), (a_E, .inr (5, [.ref a_K, .ref a_E_orderNames, .ref a_E_orderPlaces, .ref a_E_actNames, .ref a_E_actPlaces, .ref a_RB, .int v_E_minutesTold, .int v_E_lookTold, .int 1, .int (nI v_K_place)]))] H := hP
  have hD := uDPJ hP hD
  rcases w9 with rfl
  refine lv_pc (q := 23) rfl ?_
  exact uRz (1, nI v_K_place) B rfl (Or.inl ⟨rfl, (urNumF1 i_urTK k_1)⟩) (uSub hP [3, 0, 1, 2] rfl) (hD.sub [3, 0, 1, 2] rfl rfl) hS dX5_atNumber_23
def qwX5_readWait_vc (a_E : Nat) (v_E_minutesTold : Int32) (v_E_lookTold : Int32) (v_E_faultSort : Int32) (v_E_faultPlace : Int32) (a_RB : Nat) (v_RB_words : Nat) (v_RB_likes : Nat) (v_RB_orders : Nat) (v_RB_minutes : Int32) (v_RB_look : Int32) (a_RB_actNumbers : Nat) (f_RB_actNumbers : Nat → Int32) (a_K : Nat) (v_K_size : Nat) (v_K_length : Nat) (v_K_next : Nat) (v_K_kind : Nat) (v_K_place : Nat) (v_K_number : Nat) (v_K_name : Int64) (v_K_key : Int32) (a_K_bytes : Nat) (f_K_bytes : Nat → Int32) (a_K_keyNames : Nat) (f_K_keyNames : Nat → Int64) (a_E_orderNames : Nat) (a_E_orderPlaces : Nat) (a_E_actNames : Nat) (a_E_actPlaces : Nat) (a_RB_names : Nat) (a_RB_rows : Nat) (a_RB_lengths : Nat) (a_RB_dim : Nat) (a_RB_orderPosts : Nat) (a_RB_orderWords : Nat) (a_RB_orderTwice : Nat) (a_RB_actCounts : Nat) (a_RB_acts : Nat) (a_RB_actPosts : Nat) (x0 : Nat) : Int32 → (Int32 × Int32 × (Nat → Int32) × Nat × Nat × Nat × Nat × Int64 × Int32) → Prop := (fun (r : Int32) (u : Int32 × Int32 × (Nat → Int32) × Nat × Nat × Nat × Nat × Int64 × Int32) => ((r = 0 ∧ (urIs (urNum f_K_bytes v_K_length 1 99 v_K_place) u.1 u.2.1)) ∨ (r = 1 ∧ (urNum f_K_bytes v_K_length 1 99 v_K_place = urOk u.2.2.2.2.2.1) ∧ (urFs u.1 u.2.1) ∧ (urSet u.2.2.1 f_RB_actNumbers x0 (nI (urNu f_K_bytes v_K_length v_K_place))))) ∧ (u.2.2.2.1 ≤ 1000) ∧ (u.2.2.2.2.1 ≤ 5) ∧ (u.2.2.2.2.2.1 ≤ 1000) ∧ (u.2.2.2.2.2.2.1 ≤ 1000) ∧ (urTk f_K_bytes v_K_length u.2.2.2.2.2.1 u.2.2.2.1 u.2.2.2.2.1 u.2.2.2.2.2.2.1 u.2.2.2.2.2.2.2.1 u.2.2.2.2.2.2.2.2))
def vwX5_readWait_vc (K : Nat → ClassId) (a_E : Nat) (v_E_minutesTold : Int32) (v_E_lookTold : Int32) (v_E_faultSort : Int32) (v_E_faultPlace : Int32) (a_RB : Nat) (v_RB_words : Nat) (v_RB_likes : Nat) (v_RB_orders : Nat) (v_RB_minutes : Int32) (v_RB_look : Int32) (a_RB_actNumbers : Nat) (f_RB_actNumbers : Nat → Int32) (a_K : Nat) (v_K_size : Nat) (v_K_length : Nat) (v_K_next : Nat) (v_K_kind : Nat) (v_K_place : Nat) (v_K_number : Nat) (v_K_name : Int64) (v_K_key : Int32) (a_K_bytes : Nat) (f_K_bytes : Nat → Int32) (a_K_keyNames : Nat) (f_K_keyNames : Nat → Int64) (a_E_orderNames : Nat) (a_E_orderPlaces : Nat) (a_E_actNames : Nat) (a_E_actPlaces : Nat) (a_RB_names : Nat) (a_RB_rows : Nat) (a_RB_lengths : Nat) (a_RB_dim : Nat) (a_RB_orderPosts : Nat) (a_RB_orderWords : Nat) (a_RB_orderTwice : Nat) (a_RB_actCounts : Nat) (a_RB_acts : Nat) (a_RB_actPosts : Nat) (x0 : Nat) : (Int32 × Int32 × (Nat → Int32) × Nat × Nat × Nat × Nat × Int64 × Int32) → va_W := (fun (u : Int32 × Int32 × (Nat → Int32) × Nat × Nat × Nat × Nat × Int64 × Int32) => [(a_E, .inr (5, [.ref a_K, .ref a_E_orderNames, .ref a_E_orderPlaces, .ref a_E_actNames, .ref a_E_actPlaces, .ref a_RB, .int v_E_minutesTold, .int v_E_lookTold, .int u.1, .int u.2.1])), (a_RB, .inr (7, [.ref a_RB_names, .ref a_RB_rows, .ref a_RB_lengths, .ref a_RB_dim, .ref a_RB_orderPosts, .ref a_RB_orderWords, .ref a_RB_orderTwice, .ref a_RB_actCounts, .ref a_RB_acts, .ref a_RB_actNumbers, .ref a_RB_actPosts, .int (nI v_RB_words), .int (nI v_RB_likes), .int (nI v_RB_orders), .int v_RB_minutes, .int v_RB_look])), (a_RB_actNumbers, .inl (K 0, 64, .inl (u.2.2.1))), (a_K, .inr (10, [.ref a_K_bytes, .ref a_K_keyNames, .int (nI v_K_size), .int (nI v_K_length), .int (nI ((u.2.2.2.1))), .int (nI ((u.2.2.2.2.1))), .int (nI ((u.2.2.2.2.2.1))), .int (nI ((u.2.2.2.2.2.2.1))), .long u.2.2.2.2.2.2.2.1, .int u.2.2.2.2.2.2.2.2])), (a_K_bytes, .inl (K 0, 1000, .inl f_K_bytes)), (a_K_keyNames, .inl (K 2, 13, .inr (.inl f_K_keyNames)))])
set_option maxHeartbeats 4000000 in
set_option maxRecDepth 100000 in
theorem wX5_readWait_vc (l : Launch) (D : va_G) (K : Nat → ClassId) (sz : Nat) (a_E : Nat) (v_E_minutesTold : Int32) (v_E_lookTold : Int32) (v_E_faultSort : Int32) (v_E_faultPlace : Int32) (a_RB : Nat) (v_RB_words : Nat) (v_RB_likes : Nat) (v_RB_orders : Nat) (v_RB_minutes : Int32) (v_RB_look : Int32) (a_RB_actNumbers : Nat) (f_RB_actNumbers : Nat → Int32) (a_K : Nat) (v_K_size : Nat) (v_K_length : Nat) (v_K_next : Nat) (v_K_kind : Nat) (v_K_place : Nat) (v_K_number : Nat) (v_K_name : Int64) (v_K_key : Int32) (a_K_bytes : Nat) (f_K_bytes : Nat → Int32) (a_K_keyNames : Nat) (f_K_keyNames : Nat → Int64) (a_E_orderNames : Nat) (a_E_orderPlaces : Nat) (a_E_actNames : Nat) (a_E_actPlaces : Nat) (a_RB_names : Nat) (a_RB_rows : Nat) (a_RB_lengths : Nat) (a_RB_dim : Nat) (a_RB_orderPosts : Nat) (a_RB_orderWords : Nat) (a_RB_orderTwice : Nat) (a_RB_actCounts : Nat) (a_RB_acts : Nat) (a_RB_actPosts : Nat) (x0 : Nat) (hv_E_minutesTold : v_E_minutesTold = 0 ∨ v_E_minutesTold = 1) (hv_E_lookTold : v_E_lookTold = 0 ∨ v_E_lookTold = 1) (hv_RB_words : v_RB_words ≤ 10) (hv_RB_likes : v_RB_likes ≤ 8) (hv_RB_orders : v_RB_orders ≤ 16) (hv_K_size : v_K_size ≤ 1000) (hv_K_length : v_K_length ≤ 1000) (hv_K_next : v_K_next ≤ 1000) (hv_K_kind : v_K_kind ≤ 5) (hv_K_place : v_K_place ≤ 1000) (hv_K_number : v_K_number ≤ 1000) (r_K_bytes : uRg f_K_bytes 0 255) (hx0 : x0 < 64) (i_urKN : urKn f_K_keyNames) (i_urTK : urTk f_K_bytes v_K_length v_K_place v_K_next v_K_kind v_K_number v_K_name v_K_key) (i_urFS : urFs v_E_faultSort v_E_faultPlace) : uMi l yX5_readWait cX5_readWait 2 (some .boolean) { frames := 3, cells := 0, slots := 0, locals := 63 } [.ref a_E, .int (nI x0)] D K [(a_E, .inr (5, [.ref a_K, .ref a_E_orderNames, .ref a_E_orderPlaces, .ref a_E_actNames, .ref a_E_actPlaces, .ref a_RB, .int v_E_minutesTold, .int v_E_lookTold, .int v_E_faultSort, .int v_E_faultPlace])), (a_RB, .inr (7, [.ref a_RB_names, .ref a_RB_rows, .ref a_RB_lengths, .ref a_RB_dim, .ref a_RB_orderPosts, .ref a_RB_orderWords, .ref a_RB_orderTwice, .ref a_RB_actCounts, .ref a_RB_acts, .ref a_RB_actNumbers, .ref a_RB_actPosts, .int (nI v_RB_words), .int (nI v_RB_likes), .int (nI v_RB_orders), .int v_RB_minutes, .int v_RB_look])), (a_RB_actNumbers, .inl (K 0, 64, .inl f_RB_actNumbers)), (a_K, .inr (10, [.ref a_K_bytes, .ref a_K_keyNames, .int (nI v_K_size), .int (nI v_K_length), .int (nI v_K_next), .int (nI v_K_kind), .int (nI v_K_place), .int (nI v_K_number), .long v_K_name, .int v_K_key])), (a_K_bytes, .inl (K 0, 1000, .inl f_K_bytes)), (a_K_keyNames, .inl (K 2, 13, .inr (.inl f_K_keyNames)))] sz (qwX5_readWait_vc a_E v_E_minutesTold v_E_lookTold v_E_faultSort v_E_faultPlace a_RB v_RB_words v_RB_likes v_RB_orders v_RB_minutes v_RB_look a_RB_actNumbers f_RB_actNumbers a_K v_K_size v_K_length v_K_next v_K_kind v_K_place v_K_number v_K_name v_K_key a_K_bytes f_K_bytes a_K_keyNames f_K_keyNames a_E_orderNames a_E_orderPlaces a_E_actNames a_E_actPlaces a_RB_names a_RB_rows a_RB_lengths a_RB_dim a_RB_orderPosts a_RB_orderWords a_RB_orderTwice a_RB_actCounts a_RB_acts a_RB_actPosts x0) (vwX5_readWait_vc K a_E v_E_minutesTold v_E_lookTold v_E_faultSort v_E_faultPlace a_RB v_RB_words v_RB_likes v_RB_orders v_RB_minutes v_RB_look a_RB_actNumbers f_RB_actNumbers a_K v_K_size v_K_length v_K_next v_K_kind v_K_place v_K_number v_K_name v_K_key a_K_bytes f_K_bytes a_K_keyNames f_K_keyNames a_E_orderNames a_E_orderPlaces a_E_actNames a_E_actPlaces a_RB_names a_RB_rows a_RB_lengths a_RB_dim a_RB_orderPosts a_RB_orderWords a_RB_orderTwice a_RB_actCounts a_RB_acts a_RB_actPosts x0) := by
  refine uMet (Qc := uQi D (qwX5_readWait_vc a_E v_E_minutesTold v_E_lookTold v_E_faultSort v_E_faultPlace a_RB v_RB_words v_RB_likes v_RB_orders v_RB_minutes v_RB_look a_RB_actNumbers f_RB_actNumbers a_K v_K_size v_K_length v_K_next v_K_kind v_K_place v_K_number v_K_name v_K_key a_K_bytes f_K_bytes a_K_keyNames f_K_keyNames a_E_orderNames a_E_orderPlaces a_E_actNames a_E_actPlaces a_RB_names a_RB_rows a_RB_lengths a_RB_dim a_RB_orderPosts a_RB_orderWords a_RB_orderTwice a_RB_actCounts a_RB_acts a_RB_actPosts x0) (vwX5_readWait_vc K a_E v_E_minutesTold v_E_lookTold v_E_faultSort v_E_faultPlace a_RB v_RB_words v_RB_likes v_RB_orders v_RB_minutes v_RB_look a_RB_actNumbers f_RB_actNumbers a_K v_K_size v_K_length v_K_next v_K_kind v_K_place v_K_number v_K_name v_K_key a_K_bytes f_K_bytes a_K_keyNames f_K_keyNames a_E_orderNames a_E_orderPlaces a_E_actNames a_E_actPlaces a_RB_names a_RB_rows a_RB_lengths a_RB_dim a_RB_orderPosts a_RB_orderWords a_RB_orderTwice a_RB_actCounts a_RB_acts a_RB_actPosts x0)) (ret := (some .boolean)) (by decide) (Nat.le_of_ble_eq_true rfl) ?_
  intro p e s m below meth c A ls hAe hsz B hP hD hS hl
  have hx := B.1
  have hb := B.2.1
  have hl : lv_has ls 2 [(0, .ref a_E), (1, .int (nI x0))] := hl
  refine lv_aload_n hx hb dX5_readWait_0 rfl (lv_at hl 0 rfl) ?_
  refine lv_iconst (v := 1) hx hb dX5_readWait_1 (by decide) ?_
  refine lv_bipush (v := 99) hx hb dX5_readWait_2 (by decide) ?_
  refine uVi (As := [.int 1, .int 99]) (rest := []) (wr := [(a_RB, .inr (7, [.ref a_RB_names, .ref a_RB_rows, .ref a_RB_lengths, .ref a_RB_dim, .ref a_RB_orderPosts, .ref a_RB_orderWords, .ref a_RB_orderTwice, .ref a_RB_actCounts, .ref a_RB_acts, .ref a_RB_actNumbers, .ref a_RB_actPosts, .int (nI v_RB_words), .int (nI v_RB_likes), .int (nI v_RB_orders), .int v_RB_minutes, .int v_RB_look])), (a_RB_actNumbers, .inl (K 0, 64, .inl f_RB_actNumbers))]) [(a_E, .inr (5, [.ref a_K, .ref a_E_orderNames, .ref a_E_orderPlaces, .ref a_E_actNames, .ref a_E_actPlaces, .ref a_RB, .int v_E_minutesTold, .int v_E_lookTold, .int v_E_faultSort, .int v_E_faultPlace])), (a_K, .inr (10, [.ref a_K_bytes, .ref a_K_keyNames, .int (nI v_K_size), .int (nI v_K_length), .int (nI v_K_next), .int (nI v_K_kind), .int (nI v_K_place), .int (nI v_K_number), .long v_K_name, .int v_K_key])), (a_K_bytes, .inl (K 0, 1000, .inl f_K_bytes)), (a_K_keyNames, .inl (K 2, 13, .inr (.inl f_K_keyNames)))] B hl.1 hP hD hS [0, 3, 4, 5] [1, 2] rfl rfl rfl (wX5_atNumber_vc l D K _ a_E v_E_minutesTold v_E_lookTold v_E_faultSort v_E_faultPlace a_K v_K_size v_K_length v_K_next v_K_kind v_K_place v_K_number v_K_name v_K_key a_K_bytes f_K_bytes a_K_keyNames f_K_keyNames a_E_orderNames a_E_orderPlaces a_E_actNames a_E_actPlaces a_RB 1 99 hv_E_minutesTold hv_E_lookTold (by omega) (by omega) (by omega) (by omega) (by omega) (by omega) r_K_bytes (by omega) (by omega) i_urKN i_urTK i_urFS) wd_X5_atNumber mml_X5_127 rfl rfl rfl rfl ⟨Nat.le_of_ble_eq_true rfl, Nat.le_of_ble_eq_true rfl⟩ (Nat.le_of_ble_eq_true rfl) ⟨Nat.le_of_ble_eq_true rfl, Nat.le_of_ble_eq_true rfl⟩ dX5_readWait_4 (fun r1 u H locs hw hP hD hS => ?_)
  obtain ⟨u2, u3⟩ := u
  try dsimp only at hw
  have w4 := hw
  have hP : va_P D vwCl [(a_RB, .inr (7, [.ref a_RB_names, .ref a_RB_rows, .ref a_RB_lengths, .ref a_RB_dim, .ref a_RB_orderPosts, .ref a_RB_orderWords, .ref a_RB_orderTwice, .ref a_RB_actCounts, .ref a_RB_acts, .ref a_RB_actNumbers, .ref a_RB_actPosts, .int (nI v_RB_words), .int (nI v_RB_likes), .int (nI v_RB_orders), .int v_RB_minutes, .int v_RB_look])), (a_RB_actNumbers, .inl (K 0, 64, .inl f_RB_actNumbers)), (a_E, .inr (5, [.ref a_K, .ref a_E_orderNames, .ref a_E_orderPlaces, .ref a_E_actNames, .ref a_E_actPlaces, .ref a_RB, .int v_E_minutesTold, .int v_E_lookTold, .int u2, .int u3])), (a_K, .inr (10, [.ref a_K_bytes, .ref a_K_keyNames, .int (nI v_K_size), .int (nI v_K_length), .int (nI v_K_next), .int (nI v_K_kind), .int (nI v_K_place), .int (nI v_K_number), .long v_K_name, .int v_K_key])), (a_K_bytes, .inl (K 0, 1000, .inl f_K_bytes)), (a_K_keyNames, .inl (K 2, 13, .inr (.inl f_K_keyNames)))] H := hP
  have hD := uDPJ hP hD
  rcases w4 with ⟨rfl, w5⟩ | ⟨rfl, w6, w7, w8, w9⟩
  · replace w5 : urIs (urNum f_K_bytes v_K_length 1 99 v_K_place) u2 u3 := w5
    refine lv_if_ne (tgt := 12) hx hb dX5_readWait_7 (by decide) (fun h9 => absurd (by decide) h9) (fun _ => ?_)
    refine lv_pc (q := 10) rfl ?_
    refine lv_iconst (v := 0) hx hb dX5_readWait_10 (by decide) ?_
    exact uRz (u2, u3, f_RB_actNumbers, v_K_next, v_K_kind, v_K_place, v_K_number, v_K_name, v_K_key) B rfl ⟨Or.inl ⟨rfl, w5⟩, (by (try dsimp only); omega), (by (try dsimp only); omega), (by (try dsimp only); omega), (by (try dsimp only); omega), i_urTK⟩ (uSub hP [2, 0, 1, 3, 4, 5] rfl) (hD.sub [2, 0, 1, 3, 4, 5] rfl rfl) hS dX5_readWait_11
  replace w9 : urFs u2 u3 := w9
  refine lv_if_ne (tgt := 12) hx hb dX5_readWait_7 (by decide) (fun _ => ?_) (fun h9 => absurd h9 (by decide))
  refine lv_pc (q := 12) rfl ?_
  refine lv_aload_n hx hb dX5_readWait_12 rfl (lv_at hl 0 rfl) ?_
  refine uGet (ci := 5) (C := RX5) (T := TX5) (N := 10) (v := .ref a_RB) B inlX5 hP 2 rfl rfl 5 rfl mfl_X5_46 rfl rfl dX5_readWait_13 ?_
  refine uGet (ci := 7) (C := RX7) (T := TX7) (N := 16) (v := .ref a_RB_actNumbers) B inlX7 hP 0 rfl rfl 9 rfl mfl_X5_173 rfl rfl dX5_readWait_16 ?_
  refine lv_iload_n hx hb dX5_readWait_19 rfl (lv_at hl 1 rfl) ?_
  refine lv_aload_n hx hb dX5_readWait_20 rfl (lv_at hl 0 rfl) ?_
  refine uGet (ci := 5) (C := RX5) (T := TX5) (N := 10) (v := .ref a_K) B inlX5 hP 2 rfl rfl 0 rfl mfl_X5_39 rfl rfl dX5_readWait_21 ?_
  refine lv_pc (q := 24) rfl ?_
  refine uGet (ci := 10) (C := RX10) (T := TX10) (N := 10) (v := .int (nI v_K_number)) B inlX10 hP 3 rfl rfl 7 rfl mfl_X5_113 rfl rfl dX5_readWait_24 ?_
  refine uIast (i := (nI x0)) (j := x0) (ws' := [(a_RB, .inr (7, [.ref a_RB_names, .ref a_RB_rows, .ref a_RB_lengths, .ref a_RB_dim, .ref a_RB_orderPosts, .ref a_RB_orderWords, .ref a_RB_orderTwice, .ref a_RB_actCounts, .ref a_RB_acts, .ref a_RB_actNumbers, .ref a_RB_actPosts, .int (nI v_RB_words), .int (nI v_RB_likes), .int (nI v_RB_orders), .int v_RB_minutes, .int v_RB_look])), (a_RB_actNumbers, .inl (K 0, 64, .inl (upd f_RB_actNumbers x0 (nI v_K_number)))), (a_E, .inr (5, [.ref a_K, .ref a_E_orderNames, .ref a_E_orderPlaces, .ref a_E_actNames, .ref a_E_actPlaces, .ref a_RB, .int v_E_minutesTold, .int v_E_lookTold, .int u2, .int u3])), (a_K, .inr (10, [.ref a_K_bytes, .ref a_K_keyNames, .int (nI v_K_size), .int (nI v_K_length), .int (nI v_K_next), .int (nI v_K_kind), .int (nI v_K_place), .int (nI v_K_number), .long v_K_name, .int v_K_key])), (a_K_bytes, .inl (K 0, 1000, .inl f_K_bytes)), (a_K_keyNames, .inl (K 2, 13, .inr (.inl f_K_keyNames)))]) B hP hD hS 1 rfl (nI_in (by omega) (by omega)) (nI_clamp (by omega)) rfl dX5_readWait_27 (fun H locs hP hD hS => ?_)
  refine lv_aload_n hx hb dX5_readWait_28 rfl (lv_at hl 0 rfl) ?_
  refine uGet (ci := 5) (C := RX5) (T := TX5) (N := 10) (v := .ref a_K) B inlX5 hP 2 rfl rfl 0 rfl mfl_X5_39 rfl rfl dX5_readWait_29 ?_
  refine uVv (As := []) (rest := []) (wr := [(a_RB, .inr (7, [.ref a_RB_names, .ref a_RB_rows, .ref a_RB_lengths, .ref a_RB_dim, .ref a_RB_orderPosts, .ref a_RB_orderWords, .ref a_RB_orderTwice, .ref a_RB_actCounts, .ref a_RB_acts, .ref a_RB_actNumbers, .ref a_RB_actPosts, .int (nI v_RB_words), .int (nI v_RB_likes), .int (nI v_RB_orders), .int v_RB_minutes, .int v_RB_look])), (a_RB_actNumbers, .inl (K 0, 64, .inl (upd f_RB_actNumbers x0 (nI v_K_number)))), (a_E, .inr (5, [.ref a_K, .ref a_E_orderNames, .ref a_E_orderPlaces, .ref a_E_actNames, .ref a_E_actPlaces, .ref a_RB, .int v_E_minutesTold, .int v_E_lookTold, .int u2, .int u3]))]) [(a_K, .inr (10, [.ref a_K_bytes, .ref a_K_keyNames, .int (nI v_K_size), .int (nI v_K_length), .int (nI v_K_next), .int (nI v_K_kind), .int (nI v_K_place), .int (nI v_K_number), .long v_K_name, .int v_K_key])), (a_K_bytes, .inl (K 0, 1000, .inl f_K_bytes)), (a_K_keyNames, .inl (K 2, 13, .inr (.inl f_K_keyNames)))] B hl.1 hP hD hS [3, 4, 5] [0, 1, 2] rfl rfl rfl (wX10_advance_vd l D K _ a_K v_K_size v_K_length v_K_next v_K_kind v_K_place v_K_number v_K_name v_K_key a_K_bytes f_K_bytes a_K_keyNames f_K_keyNames (by omega) (by omega) (by omega) (by omega) (by omega) (by omega) r_K_bytes i_urKN i_urTK) wd_X10_advance mml_X5_110 rfl rfl rfl rfl ⟨Nat.le_of_ble_eq_true rfl, Nat.le_of_ble_eq_true rfl⟩ (Nat.le_of_ble_eq_true rfl) ⟨Nat.le_of_ble_eq_true rfl, Nat.le_of_ble_eq_true rfl⟩ dX5_readWait_32 (fun u H locs hw hP hD hS => ?_)
  obtain ⟨u11, u12, u13, u14, u15, u16⟩ := u
  try dsimp only at hw
  obtain ⟨w17, w18, w19, w20, w21, w22⟩ := hw
  replace w17 : u11 ≤ 1000 := w17
  replace w18 : u12 ≤ 5 := w18
  replace w19 : u13 ≤ 1000 := w19
  replace w20 : u14 ≤ 1000 := w20
  replace w22 : u13 = urAd f_K_bytes v_K_length v_K_place := w22
  have hP : va_P D vwCl [(a_RB, .inr (7, [.ref a_RB_names, .ref a_RB_rows, .ref a_RB_lengths, .ref a_RB_dim, .ref a_RB_orderPosts, .ref a_RB_orderWords, .ref a_RB_orderTwice, .ref a_RB_actCounts, .ref a_RB_acts, .ref a_RB_actNumbers, .ref a_RB_actPosts, .int (nI v_RB_words), .int (nI v_RB_likes), .int (nI v_RB_orders), .int v_RB_minutes, .int v_RB_look])), (a_RB_actNumbers, .inl (K 0, 64, .inl (upd f_RB_actNumbers x0 (nI v_K_number)))), (a_E, .inr (5, [.ref a_K, .ref a_E_orderNames, .ref a_E_orderPlaces, .ref a_E_actNames, .ref a_E_actPlaces, .ref a_RB, .int v_E_minutesTold, .int v_E_lookTold, .int u2, .int u3])), (a_K, .inr (10, [.ref a_K_bytes, .ref a_K_keyNames, .int (nI v_K_size), .int (nI v_K_length), .int (nI u11), .int (nI u12), .int (nI u13), .int (nI u14), .long u15, .int u16])), (a_K_bytes, .inl (K 0, 1000, .inl f_K_bytes)), (a_K_keyNames, .inl (K 2, 13, .inr (.inl f_K_keyNames)))] H := hP
  have hD := uDPJ hP hD
  refine lv_iconst (v := 1) hx hb dX5_readWait_35 (by decide) ?_
  refine lv_pc (q := 36) rfl ?_
  exact uRz (u2, u3, upd f_RB_actNumbers x0 (nI v_K_number), u11, u12, u13, u14, u15, u16) B rfl ⟨Or.inr ⟨rfl, (urNumP w6 w22), w9, (urSetU (congrArg nI w6.2.2))⟩, (by (try dsimp only); omega), (by (try dsimp only); omega), (by (try dsimp only); omega), (by (try dsimp only); omega), w21⟩ (uSub hP [2, 0, 1, 3, 4, 5] rfl) (hD.sub [2, 0, 1, 3, 4, 5] rfl rfl) hS dX5_readWait_36
def qwX5_readSend_vc (a_E : Nat) (v_E_minutesTold : Int32) (v_E_lookTold : Int32) (v_E_faultSort : Int32) (v_E_faultPlace : Int32) (a_RB : Nat) (v_RB_words : Nat) (v_RB_likes : Nat) (v_RB_orders : Nat) (v_RB_minutes : Int32) (v_RB_look : Int32) (a_RB_actPosts : Nat) (f_RB_actPosts : Nat → Int32) (a_K : Nat) (v_K_size : Nat) (v_K_length : Nat) (v_K_next : Nat) (v_K_kind : Nat) (v_K_place : Nat) (v_K_number : Nat) (v_K_name : Int64) (v_K_key : Int32) (a_K_bytes : Nat) (f_K_bytes : Nat → Int32) (a_K_keyNames : Nat) (f_K_keyNames : Nat → Int64) (a_E_actNames : Nat) (f_E_actNames : Nat → Int64) (a_E_actPlaces : Nat) (f_E_actPlaces : Nat → Int32) (a_E_orderNames : Nat) (a_E_orderPlaces : Nat) (a_RB_names : Nat) (a_RB_rows : Nat) (a_RB_lengths : Nat) (a_RB_dim : Nat) (a_RB_orderPosts : Nat) (a_RB_orderWords : Nat) (a_RB_orderTwice : Nat) (a_RB_actCounts : Nat) (a_RB_acts : Nat) (a_RB_actNumbers : Nat) (x0 : Nat) : Int32 → (Int32 × Int32 × (Nat → Int32) × Nat × Nat × Nat × Nat × Int64 × Int32 × (Nat → Int64) × (Nat → Int32)) → Prop := (fun (r : Int32) (u : Int32 × Int32 × (Nat → Int32) × Nat × Nat × Nat × Nat × Int64 × Int32 × (Nat → Int64) × (Nat → Int32)) => ((r = 0 ∧ (urIs (urSnd f_K_bytes v_K_length v_K_place) u.1 u.2.1)) ∨ (r = 1 ∧ (urSnd f_K_bytes v_K_length v_K_place = urOk u.2.2.2.2.2.1) ∧ (urFs u.1 u.2.1) ∧ (urSet u.2.2.2.2.2.2.2.2.2.1 f_E_actNames x0 (lN (urNm 32 f_K_bytes v_K_length v_K_place))) ∧ (urSet u.2.2.2.2.2.2.2.2.2.2 f_E_actPlaces x0 (nI v_K_place)) ∧ (urSet u.2.2.1 f_RB_actPosts x0 (urTp f_K_bytes v_K_length v_K_place)))) ∧ (u.2.2.2.1 ≤ 1000) ∧ (u.2.2.2.2.1 ≤ 5) ∧ (u.2.2.2.2.2.1 ≤ 1000) ∧ (u.2.2.2.2.2.2.1 ≤ 1000) ∧ (urTk f_K_bytes v_K_length u.2.2.2.2.2.1 u.2.2.2.1 u.2.2.2.2.1 u.2.2.2.2.2.2.1 u.2.2.2.2.2.2.2.1 u.2.2.2.2.2.2.2.2.1))
def vwX5_readSend_vc (K : Nat → ClassId) (a_E : Nat) (v_E_minutesTold : Int32) (v_E_lookTold : Int32) (v_E_faultSort : Int32) (v_E_faultPlace : Int32) (a_RB : Nat) (v_RB_words : Nat) (v_RB_likes : Nat) (v_RB_orders : Nat) (v_RB_minutes : Int32) (v_RB_look : Int32) (a_RB_actPosts : Nat) (f_RB_actPosts : Nat → Int32) (a_K : Nat) (v_K_size : Nat) (v_K_length : Nat) (v_K_next : Nat) (v_K_kind : Nat) (v_K_place : Nat) (v_K_number : Nat) (v_K_name : Int64) (v_K_key : Int32) (a_K_bytes : Nat) (f_K_bytes : Nat → Int32) (a_K_keyNames : Nat) (f_K_keyNames : Nat → Int64) (a_E_actNames : Nat) (f_E_actNames : Nat → Int64) (a_E_actPlaces : Nat) (f_E_actPlaces : Nat → Int32) (a_E_orderNames : Nat) (a_E_orderPlaces : Nat) (a_RB_names : Nat) (a_RB_rows : Nat) (a_RB_lengths : Nat) (a_RB_dim : Nat) (a_RB_orderPosts : Nat) (a_RB_orderWords : Nat) (a_RB_orderTwice : Nat) (a_RB_actCounts : Nat) (a_RB_acts : Nat) (a_RB_actNumbers : Nat) (x0 : Nat) : (Int32 × Int32 × (Nat → Int32) × Nat × Nat × Nat × Nat × Int64 × Int32 × (Nat → Int64) × (Nat → Int32)) → va_W := (fun (u : Int32 × Int32 × (Nat → Int32) × Nat × Nat × Nat × Nat × Int64 × Int32 × (Nat → Int64) × (Nat → Int32)) => [(a_E, .inr (5, [.ref a_K, .ref a_E_orderNames, .ref a_E_orderPlaces, .ref a_E_actNames, .ref a_E_actPlaces, .ref a_RB, .int v_E_minutesTold, .int v_E_lookTold, .int u.1, .int u.2.1])), (a_RB, .inr (7, [.ref a_RB_names, .ref a_RB_rows, .ref a_RB_lengths, .ref a_RB_dim, .ref a_RB_orderPosts, .ref a_RB_orderWords, .ref a_RB_orderTwice, .ref a_RB_actCounts, .ref a_RB_acts, .ref a_RB_actNumbers, .ref a_RB_actPosts, .int (nI v_RB_words), .int (nI v_RB_likes), .int (nI v_RB_orders), .int v_RB_minutes, .int v_RB_look])), (a_RB_actPosts, .inl (K 0, 64, .inl (u.2.2.1))), (a_K, .inr (10, [.ref a_K_bytes, .ref a_K_keyNames, .int (nI v_K_size), .int (nI v_K_length), .int (nI ((u.2.2.2.1))), .int (nI ((u.2.2.2.2.1))), .int (nI ((u.2.2.2.2.2.1))), .int (nI ((u.2.2.2.2.2.2.1))), .long u.2.2.2.2.2.2.2.1, .int u.2.2.2.2.2.2.2.2.1])), (a_K_bytes, .inl (K 0, 1000, .inl f_K_bytes)), (a_K_keyNames, .inl (K 2, 13, .inr (.inl f_K_keyNames))), (a_E_actNames, .inl (K 2, 64, .inr (.inl (u.2.2.2.2.2.2.2.2.2.1)))), (a_E_actPlaces, .inl (K 0, 64, .inl (u.2.2.2.2.2.2.2.2.2.2)))])
set_option maxHeartbeats 4000000 in
set_option maxRecDepth 100000 in
theorem wX5_readSend_vc (l : Launch) (D : va_G) (K : Nat → ClassId) (sz : Nat) (a_E : Nat) (v_E_minutesTold : Int32) (v_E_lookTold : Int32) (v_E_faultSort : Int32) (v_E_faultPlace : Int32) (a_RB : Nat) (v_RB_words : Nat) (v_RB_likes : Nat) (v_RB_orders : Nat) (v_RB_minutes : Int32) (v_RB_look : Int32) (a_RB_actPosts : Nat) (f_RB_actPosts : Nat → Int32) (a_K : Nat) (v_K_size : Nat) (v_K_length : Nat) (v_K_next : Nat) (v_K_kind : Nat) (v_K_place : Nat) (v_K_number : Nat) (v_K_name : Int64) (v_K_key : Int32) (a_K_bytes : Nat) (f_K_bytes : Nat → Int32) (a_K_keyNames : Nat) (f_K_keyNames : Nat → Int64) (a_E_actNames : Nat) (f_E_actNames : Nat → Int64) (a_E_actPlaces : Nat) (f_E_actPlaces : Nat → Int32) (a_E_orderNames : Nat) (a_E_orderPlaces : Nat) (a_RB_names : Nat) (a_RB_rows : Nat) (a_RB_lengths : Nat) (a_RB_dim : Nat) (a_RB_orderPosts : Nat) (a_RB_orderWords : Nat) (a_RB_orderTwice : Nat) (a_RB_actCounts : Nat) (a_RB_acts : Nat) (a_RB_actNumbers : Nat) (x0 : Nat) (hv_E_minutesTold : v_E_minutesTold = 0 ∨ v_E_minutesTold = 1) (hv_E_lookTold : v_E_lookTold = 0 ∨ v_E_lookTold = 1) (hv_RB_words : v_RB_words ≤ 10) (hv_RB_likes : v_RB_likes ≤ 8) (hv_RB_orders : v_RB_orders ≤ 16) (hv_K_size : v_K_size ≤ 1000) (hv_K_length : v_K_length ≤ 1000) (hv_K_next : v_K_next ≤ 1000) (hv_K_kind : v_K_kind ≤ 5) (hv_K_place : v_K_place ≤ 1000) (hv_K_number : v_K_number ≤ 1000) (r_K_bytes : uRg f_K_bytes 0 255) (hx0 : x0 < 64) (i_urKN : urKn f_K_keyNames) (i_urTK : urTk f_K_bytes v_K_length v_K_place v_K_next v_K_kind v_K_number v_K_name v_K_key) (i_urFS : urFs v_E_faultSort v_E_faultPlace) : uMi l yX5_readSend cX5_readSend 2 (some .boolean) { frames := 3, cells := 0, slots := 0, locals := 63 } [.ref a_E, .int (nI x0)] D K [(a_E, .inr (5, [.ref a_K, .ref a_E_orderNames, .ref a_E_orderPlaces, .ref a_E_actNames, .ref a_E_actPlaces, .ref a_RB, .int v_E_minutesTold, .int v_E_lookTold, .int v_E_faultSort, .int v_E_faultPlace])), (a_RB, .inr (7, [.ref a_RB_names, .ref a_RB_rows, .ref a_RB_lengths, .ref a_RB_dim, .ref a_RB_orderPosts, .ref a_RB_orderWords, .ref a_RB_orderTwice, .ref a_RB_actCounts, .ref a_RB_acts, .ref a_RB_actNumbers, .ref a_RB_actPosts, .int (nI v_RB_words), .int (nI v_RB_likes), .int (nI v_RB_orders), .int v_RB_minutes, .int v_RB_look])), (a_RB_actPosts, .inl (K 0, 64, .inl f_RB_actPosts)), (a_K, .inr (10, [.ref a_K_bytes, .ref a_K_keyNames, .int (nI v_K_size), .int (nI v_K_length), .int (nI v_K_next), .int (nI v_K_kind), .int (nI v_K_place), .int (nI v_K_number), .long v_K_name, .int v_K_key])), (a_K_bytes, .inl (K 0, 1000, .inl f_K_bytes)), (a_K_keyNames, .inl (K 2, 13, .inr (.inl f_K_keyNames))), (a_E_actNames, .inl (K 2, 64, .inr (.inl f_E_actNames))), (a_E_actPlaces, .inl (K 0, 64, .inl f_E_actPlaces))] sz (qwX5_readSend_vc a_E v_E_minutesTold v_E_lookTold v_E_faultSort v_E_faultPlace a_RB v_RB_words v_RB_likes v_RB_orders v_RB_minutes v_RB_look a_RB_actPosts f_RB_actPosts a_K v_K_size v_K_length v_K_next v_K_kind v_K_place v_K_number v_K_name v_K_key a_K_bytes f_K_bytes a_K_keyNames f_K_keyNames a_E_actNames f_E_actNames a_E_actPlaces f_E_actPlaces a_E_orderNames a_E_orderPlaces a_RB_names a_RB_rows a_RB_lengths a_RB_dim a_RB_orderPosts a_RB_orderWords a_RB_orderTwice a_RB_actCounts a_RB_acts a_RB_actNumbers x0) (vwX5_readSend_vc K a_E v_E_minutesTold v_E_lookTold v_E_faultSort v_E_faultPlace a_RB v_RB_words v_RB_likes v_RB_orders v_RB_minutes v_RB_look a_RB_actPosts f_RB_actPosts a_K v_K_size v_K_length v_K_next v_K_kind v_K_place v_K_number v_K_name v_K_key a_K_bytes f_K_bytes a_K_keyNames f_K_keyNames a_E_actNames f_E_actNames a_E_actPlaces f_E_actPlaces a_E_orderNames a_E_orderPlaces a_RB_names a_RB_rows a_RB_lengths a_RB_dim a_RB_orderPosts a_RB_orderWords a_RB_orderTwice a_RB_actCounts a_RB_acts a_RB_actNumbers x0) := by
  refine uMet (Qc := uQi D (qwX5_readSend_vc a_E v_E_minutesTold v_E_lookTold v_E_faultSort v_E_faultPlace a_RB v_RB_words v_RB_likes v_RB_orders v_RB_minutes v_RB_look a_RB_actPosts f_RB_actPosts a_K v_K_size v_K_length v_K_next v_K_kind v_K_place v_K_number v_K_name v_K_key a_K_bytes f_K_bytes a_K_keyNames f_K_keyNames a_E_actNames f_E_actNames a_E_actPlaces f_E_actPlaces a_E_orderNames a_E_orderPlaces a_RB_names a_RB_rows a_RB_lengths a_RB_dim a_RB_orderPosts a_RB_orderWords a_RB_orderTwice a_RB_actCounts a_RB_acts a_RB_actNumbers x0) (vwX5_readSend_vc K a_E v_E_minutesTold v_E_lookTold v_E_faultSort v_E_faultPlace a_RB v_RB_words v_RB_likes v_RB_orders v_RB_minutes v_RB_look a_RB_actPosts f_RB_actPosts a_K v_K_size v_K_length v_K_next v_K_kind v_K_place v_K_number v_K_name v_K_key a_K_bytes f_K_bytes a_K_keyNames f_K_keyNames a_E_actNames f_E_actNames a_E_actPlaces f_E_actPlaces a_E_orderNames a_E_orderPlaces a_RB_names a_RB_rows a_RB_lengths a_RB_dim a_RB_orderPosts a_RB_orderWords a_RB_orderTwice a_RB_actCounts a_RB_acts a_RB_actNumbers x0)) (ret := (some .boolean)) (by decide) (Nat.le_of_ble_eq_true rfl) ?_
  intro p e s m below meth c A ls hAe hsz B hP hD hS hl
  have hx := B.1
  have hb := B.2.1
  have hl : lv_has ls 2 [(0, .ref a_E), (1, .int (nI x0))] := hl
  refine lv_aload_n hx hb dX5_readSend_0 rfl (lv_at hl 0 rfl) ?_
  refine uVi (As := []) (rest := []) (wr := [(a_RB, .inr (7, [.ref a_RB_names, .ref a_RB_rows, .ref a_RB_lengths, .ref a_RB_dim, .ref a_RB_orderPosts, .ref a_RB_orderWords, .ref a_RB_orderTwice, .ref a_RB_actCounts, .ref a_RB_acts, .ref a_RB_actNumbers, .ref a_RB_actPosts, .int (nI v_RB_words), .int (nI v_RB_likes), .int (nI v_RB_orders), .int v_RB_minutes, .int v_RB_look])), (a_RB_actPosts, .inl (K 0, 64, .inl f_RB_actPosts)), (a_E_actNames, .inl (K 2, 64, .inr (.inl f_E_actNames))), (a_E_actPlaces, .inl (K 0, 64, .inl f_E_actPlaces))]) [(a_E, .inr (5, [.ref a_K, .ref a_E_orderNames, .ref a_E_orderPlaces, .ref a_E_actNames, .ref a_E_actPlaces, .ref a_RB, .int v_E_minutesTold, .int v_E_lookTold, .int v_E_faultSort, .int v_E_faultPlace])), (a_K, .inr (10, [.ref a_K_bytes, .ref a_K_keyNames, .int (nI v_K_size), .int (nI v_K_length), .int (nI v_K_next), .int (nI v_K_kind), .int (nI v_K_place), .int (nI v_K_number), .long v_K_name, .int v_K_key])), (a_K_bytes, .inl (K 0, 1000, .inl f_K_bytes)), (a_K_keyNames, .inl (K 2, 13, .inr (.inl f_K_keyNames)))] B hl.1 hP hD hS [0, 3, 4, 5] [1, 2, 6, 7] rfl rfl rfl (wX5_atName_vc l D K _ a_E v_E_minutesTold v_E_lookTold v_E_faultSort v_E_faultPlace a_K v_K_size v_K_length v_K_next v_K_kind v_K_place v_K_number v_K_name v_K_key a_K_bytes f_K_bytes a_K_keyNames f_K_keyNames a_E_orderNames a_E_orderPlaces a_E_actNames a_E_actPlaces a_RB hv_E_minutesTold hv_E_lookTold (by omega) (by omega) (by omega) (by omega) (by omega) (by omega) r_K_bytes i_urKN i_urTK i_urFS) wd_X5_atName mml_X5_116 rfl rfl rfl rfl ⟨Nat.le_of_ble_eq_true rfl, Nat.le_of_ble_eq_true rfl⟩ (Nat.le_of_ble_eq_true rfl) ⟨Nat.le_of_ble_eq_true rfl, Nat.le_of_ble_eq_true rfl⟩ dX5_readSend_1 (fun r1 u H locs hw hP hD hS => ?_)
  obtain ⟨u2, u3⟩ := u
  try dsimp only at hw
  have w4 := hw
  have hP : va_P D vwCl [(a_RB, .inr (7, [.ref a_RB_names, .ref a_RB_rows, .ref a_RB_lengths, .ref a_RB_dim, .ref a_RB_orderPosts, .ref a_RB_orderWords, .ref a_RB_orderTwice, .ref a_RB_actCounts, .ref a_RB_acts, .ref a_RB_actNumbers, .ref a_RB_actPosts, .int (nI v_RB_words), .int (nI v_RB_likes), .int (nI v_RB_orders), .int v_RB_minutes, .int v_RB_look])), (a_RB_actPosts, .inl (K 0, 64, .inl f_RB_actPosts)), (a_E_actNames, .inl (K 2, 64, .inr (.inl f_E_actNames))), (a_E_actPlaces, .inl (K 0, 64, .inl f_E_actPlaces)), (a_E, .inr (5, [.ref a_K, .ref a_E_orderNames, .ref a_E_orderPlaces, .ref a_E_actNames, .ref a_E_actPlaces, .ref a_RB, .int v_E_minutesTold, .int v_E_lookTold, .int u2, .int u3])), (a_K, .inr (10, [.ref a_K_bytes, .ref a_K_keyNames, .int (nI v_K_size), .int (nI v_K_length), .int (nI v_K_next), .int (nI v_K_kind), .int (nI v_K_place), .int (nI v_K_number), .long v_K_name, .int v_K_key])), (a_K_bytes, .inl (K 0, 1000, .inl f_K_bytes)), (a_K_keyNames, .inl (K 2, 13, .inr (.inl f_K_keyNames)))] H := hP
  have hD := uDPJ hP hD
  rcases w4 with ⟨rfl, w5⟩ | ⟨rfl, w6, w7⟩
  · replace w5 : urIs (urNam f_K_bytes v_K_length v_K_place) u2 u3 := w5
    refine lv_if_ne (tgt := 9) hx hb dX5_readSend_4 (by decide) (fun h9 => absurd (by decide) h9) (fun _ => ?_)
    refine lv_iconst (v := 0) hx hb dX5_readSend_7 (by decide) ?_
    exact uRz (u2, u3, f_RB_actPosts, v_K_next, v_K_kind, v_K_place, v_K_number, v_K_name, v_K_key, f_E_actNames, f_E_actPlaces) B rfl ⟨Or.inl ⟨rfl, (urSndF w5)⟩, (by (try dsimp only); omega), (by (try dsimp only); omega), (by (try dsimp only); omega), (by (try dsimp only); omega), i_urTK⟩ (uSub hP [4, 0, 1, 5, 6, 7, 2, 3] rfl) (hD.sub [4, 0, 1, 5, 6, 7, 2, 3] rfl rfl) hS dX5_readSend_8
  replace w7 : urFs u2 u3 := w7
  refine lv_if_ne (tgt := 9) hx hb dX5_readSend_4 (by decide) (fun _ => ?_) (fun h9 => absurd h9 (by decide))
  refine lv_aload_n hx hb dX5_readSend_9 rfl (lv_at hl 0 rfl) ?_
  refine uGet (ci := 5) (C := RX5) (T := TX5) (N := 10) (v := .ref a_E_actNames) B inlX5 hP 4 rfl rfl 3 rfl mfl_X5_19 rfl rfl dX5_readSend_10 ?_
  refine lv_pc (q := 13) rfl ?_
  refine lv_iload_n hx hb dX5_readSend_13 rfl (lv_at hl 1 rfl) ?_
  refine lv_aload_n hx hb dX5_readSend_14 rfl (lv_at hl 0 rfl) ?_
  refine uGet (ci := 5) (C := RX5) (T := TX5) (N := 10) (v := .ref a_K) B inlX5 hP 4 rfl rfl 0 rfl mfl_X5_39 rfl rfl dX5_readSend_15 ?_
  refine uGet (ci := 10) (C := RX10) (T := TX10) (N := 10) (v := .long v_K_name) B inlX10 hP 5 rfl rfl 8 rfl mfl_X5_119 rfl rfl dX5_readSend_18 ?_
  refine uLast (i := (nI x0)) (j := x0) (ws' := [(a_RB, .inr (7, [.ref a_RB_names, .ref a_RB_rows, .ref a_RB_lengths, .ref a_RB_dim, .ref a_RB_orderPosts, .ref a_RB_orderWords, .ref a_RB_orderTwice, .ref a_RB_actCounts, .ref a_RB_acts, .ref a_RB_actNumbers, .ref a_RB_actPosts, .int (nI v_RB_words), .int (nI v_RB_likes), .int (nI v_RB_orders), .int v_RB_minutes, .int v_RB_look])), (a_RB_actPosts, .inl (K 0, 64, .inl f_RB_actPosts)), (a_E_actNames, .inl (K 2, 64, .inr (.inl (vp_updL f_E_actNames x0 v_K_name)))), (a_E_actPlaces, .inl (K 0, 64, .inl f_E_actPlaces)), (a_E, .inr (5, [.ref a_K, .ref a_E_orderNames, .ref a_E_orderPlaces, .ref a_E_actNames, .ref a_E_actPlaces, .ref a_RB, .int v_E_minutesTold, .int v_E_lookTold, .int u2, .int u3])), (a_K, .inr (10, [.ref a_K_bytes, .ref a_K_keyNames, .int (nI v_K_size), .int (nI v_K_length), .int (nI v_K_next), .int (nI v_K_kind), .int (nI v_K_place), .int (nI v_K_number), .long v_K_name, .int v_K_key])), (a_K_bytes, .inl (K 0, 1000, .inl f_K_bytes)), (a_K_keyNames, .inl (K 2, 13, .inr (.inl f_K_keyNames)))]) B hP hD hS 2 rfl (nI_in (by omega) (by omega)) (nI_clamp (by omega)) rfl dX5_readSend_21 (fun H locs hP hD hS => ?_)
  refine lv_aload_n hx hb dX5_readSend_22 rfl (lv_at hl 0 rfl) ?_
  refine lv_pc (q := 23) rfl ?_
  refine uGet (ci := 5) (C := RX5) (T := TX5) (N := 10) (v := .ref a_E_actPlaces) B inlX5 hP 4 rfl rfl 4 rfl mfl_X5_22 rfl rfl dX5_readSend_23 ?_
  refine lv_iload_n hx hb dX5_readSend_26 rfl (lv_at hl 1 rfl) ?_
  refine lv_aload_n hx hb dX5_readSend_27 rfl (lv_at hl 0 rfl) ?_
  refine uGet (ci := 5) (C := RX5) (T := TX5) (N := 10) (v := .ref a_K) B inlX5 hP 4 rfl rfl 0 rfl mfl_X5_39 rfl rfl dX5_readSend_28 ?_
  refine uGet (ci := 10) (C := RX10) (T := TX10) (N := 10) (v := .int (nI v_K_place)) B inlX10 hP 5 rfl rfl 6 rfl mfl_X5_59 rfl rfl dX5_readSend_31 ?_
  refine uIast (i := (nI x0)) (j := x0) (ws' := [(a_RB, .inr (7, [.ref a_RB_names, .ref a_RB_rows, .ref a_RB_lengths, .ref a_RB_dim, .ref a_RB_orderPosts, .ref a_RB_orderWords, .ref a_RB_orderTwice, .ref a_RB_actCounts, .ref a_RB_acts, .ref a_RB_actNumbers, .ref a_RB_actPosts, .int (nI v_RB_words), .int (nI v_RB_likes), .int (nI v_RB_orders), .int v_RB_minutes, .int v_RB_look])), (a_RB_actPosts, .inl (K 0, 64, .inl f_RB_actPosts)), (a_E_actNames, .inl (K 2, 64, .inr (.inl (vp_updL f_E_actNames x0 v_K_name)))), (a_E_actPlaces, .inl (K 0, 64, .inl (upd f_E_actPlaces x0 (nI v_K_place)))), (a_E, .inr (5, [.ref a_K, .ref a_E_orderNames, .ref a_E_orderPlaces, .ref a_E_actNames, .ref a_E_actPlaces, .ref a_RB, .int v_E_minutesTold, .int v_E_lookTold, .int u2, .int u3])), (a_K, .inr (10, [.ref a_K_bytes, .ref a_K_keyNames, .int (nI v_K_size), .int (nI v_K_length), .int (nI v_K_next), .int (nI v_K_kind), .int (nI v_K_place), .int (nI v_K_number), .long v_K_name, .int v_K_key])), (a_K_bytes, .inl (K 0, 1000, .inl f_K_bytes)), (a_K_keyNames, .inl (K 2, 13, .inr (.inl f_K_keyNames)))]) B hP hD hS 3 rfl (nI_in (by omega) (by omega)) (nI_clamp (by omega)) rfl dX5_readSend_34 (fun H locs hP hD hS => ?_)
  refine lv_pc (q := 35) rfl ?_
  refine lv_aload_n hx hb dX5_readSend_35 rfl (lv_at hl 0 rfl) ?_
  refine uGet (ci := 5) (C := RX5) (T := TX5) (N := 10) (v := .ref a_RB) B inlX5 hP 4 rfl rfl 5 rfl mfl_X5_46 rfl rfl dX5_readSend_36 ?_
  refine uGet (ci := 7) (C := RX7) (T := TX7) (N := 16) (v := .ref a_RB_actPosts) B inlX7 hP 0 rfl rfl 10 rfl mfl_X5_176 rfl rfl dX5_readSend_39 ?_
  refine lv_iload_n hx hb dX5_readSend_42 rfl (lv_at hl 1 rfl) ?_
  refine lv_iconst (v := (-1)) hx hb dX5_readSend_43 (by decide) ?_
  refine uIast (i := (nI x0)) (j := x0) (ws' := [(a_RB, .inr (7, [.ref a_RB_names, .ref a_RB_rows, .ref a_RB_lengths, .ref a_RB_dim, .ref a_RB_orderPosts, .ref a_RB_orderWords, .ref a_RB_orderTwice, .ref a_RB_actCounts, .ref a_RB_acts, .ref a_RB_actNumbers, .ref a_RB_actPosts, .int (nI v_RB_words), .int (nI v_RB_likes), .int (nI v_RB_orders), .int v_RB_minutes, .int v_RB_look])), (a_RB_actPosts, .inl (K 0, 64, .inl (upd f_RB_actPosts x0 (-1)))), (a_E_actNames, .inl (K 2, 64, .inr (.inl (vp_updL f_E_actNames x0 v_K_name)))), (a_E_actPlaces, .inl (K 0, 64, .inl (upd f_E_actPlaces x0 (nI v_K_place)))), (a_E, .inr (5, [.ref a_K, .ref a_E_orderNames, .ref a_E_orderPlaces, .ref a_E_actNames, .ref a_E_actPlaces, .ref a_RB, .int v_E_minutesTold, .int v_E_lookTold, .int u2, .int u3])), (a_K, .inr (10, [.ref a_K_bytes, .ref a_K_keyNames, .int (nI v_K_size), .int (nI v_K_length), .int (nI v_K_next), .int (nI v_K_kind), .int (nI v_K_place), .int (nI v_K_number), .long v_K_name, .int v_K_key])), (a_K_bytes, .inl (K 0, 1000, .inl f_K_bytes)), (a_K_keyNames, .inl (K 2, 13, .inr (.inl f_K_keyNames)))]) B hP hD hS 1 rfl (nI_in (by omega) (by omega)) (nI_clamp (by omega)) rfl dX5_readSend_44 (fun H locs hP hD hS => ?_)
  refine lv_pc (q := 45) rfl ?_
  refine lv_aload_n hx hb dX5_readSend_45 rfl (lv_at hl 0 rfl) ?_
  refine uGet (ci := 5) (C := RX5) (T := TX5) (N := 10) (v := .ref a_K) B inlX5 hP 4 rfl rfl 0 rfl mfl_X5_39 rfl rfl dX5_readSend_46 ?_
  refine uVv (As := []) (rest := []) (wr := [(a_RB, .inr (7, [.ref a_RB_names, .ref a_RB_rows, .ref a_RB_lengths, .ref a_RB_dim, .ref a_RB_orderPosts, .ref a_RB_orderWords, .ref a_RB_orderTwice, .ref a_RB_actCounts, .ref a_RB_acts, .ref a_RB_actNumbers, .ref a_RB_actPosts, .int (nI v_RB_words), .int (nI v_RB_likes), .int (nI v_RB_orders), .int v_RB_minutes, .int v_RB_look])), (a_RB_actPosts, .inl (K 0, 64, .inl (upd f_RB_actPosts x0 (-1)))), (a_E_actNames, .inl (K 2, 64, .inr (.inl (vp_updL f_E_actNames x0 v_K_name)))), (a_E_actPlaces, .inl (K 0, 64, .inl (upd f_E_actPlaces x0 (nI v_K_place)))), (a_E, .inr (5, [.ref a_K, .ref a_E_orderNames, .ref a_E_orderPlaces, .ref a_E_actNames, .ref a_E_actPlaces, .ref a_RB, .int v_E_minutesTold, .int v_E_lookTold, .int u2, .int u3]))]) [(a_K, .inr (10, [.ref a_K_bytes, .ref a_K_keyNames, .int (nI v_K_size), .int (nI v_K_length), .int (nI v_K_next), .int (nI v_K_kind), .int (nI v_K_place), .int (nI v_K_number), .long v_K_name, .int v_K_key])), (a_K_bytes, .inl (K 0, 1000, .inl f_K_bytes)), (a_K_keyNames, .inl (K 2, 13, .inr (.inl f_K_keyNames)))] B hl.1 hP hD hS [5, 6, 7] [0, 1, 2, 3, 4] rfl rfl rfl (wX10_advance_vd l D K _ a_K v_K_size v_K_length v_K_next v_K_kind v_K_place v_K_number v_K_name v_K_key a_K_bytes f_K_bytes a_K_keyNames f_K_keyNames (by omega) (by omega) (by omega) (by omega) (by omega) (by omega) r_K_bytes i_urKN i_urTK) wd_X10_advance mml_X5_110 rfl rfl rfl rfl ⟨Nat.le_of_ble_eq_true rfl, Nat.le_of_ble_eq_true rfl⟩ (Nat.le_of_ble_eq_true rfl) ⟨Nat.le_of_ble_eq_true rfl, Nat.le_of_ble_eq_true rfl⟩ dX5_readSend_49 (fun u H locs hw hP hD hS => ?_)
  obtain ⟨u9, u10, u11, u12, u13, u14⟩ := u
  try dsimp only at hw
  obtain ⟨w15, w16, w17, w18, w19, w20⟩ := hw
  replace w15 : u9 ≤ 1000 := w15
  replace w16 : u10 ≤ 5 := w16
  replace w17 : u11 ≤ 1000 := w17
  replace w18 : u12 ≤ 1000 := w18
  replace w20 : u11 = urAd f_K_bytes v_K_length v_K_place := w20
  have hP : va_P D vwCl [(a_RB, .inr (7, [.ref a_RB_names, .ref a_RB_rows, .ref a_RB_lengths, .ref a_RB_dim, .ref a_RB_orderPosts, .ref a_RB_orderWords, .ref a_RB_orderTwice, .ref a_RB_actCounts, .ref a_RB_acts, .ref a_RB_actNumbers, .ref a_RB_actPosts, .int (nI v_RB_words), .int (nI v_RB_likes), .int (nI v_RB_orders), .int v_RB_minutes, .int v_RB_look])), (a_RB_actPosts, .inl (K 0, 64, .inl (upd f_RB_actPosts x0 (-1)))), (a_E_actNames, .inl (K 2, 64, .inr (.inl (vp_updL f_E_actNames x0 v_K_name)))), (a_E_actPlaces, .inl (K 0, 64, .inl (upd f_E_actPlaces x0 (nI v_K_place)))), (a_E, .inr (5, [.ref a_K, .ref a_E_orderNames, .ref a_E_orderPlaces, .ref a_E_actNames, .ref a_E_actPlaces, .ref a_RB, .int v_E_minutesTold, .int v_E_lookTold, .int u2, .int u3])), (a_K, .inr (10, [.ref a_K_bytes, .ref a_K_keyNames, .int (nI v_K_size), .int (nI v_K_length), .int (nI u9), .int (nI u10), .int (nI u11), .int (nI u12), .long u13, .int u14])), (a_K_bytes, .inl (K 0, 1000, .inl f_K_bytes)), (a_K_keyNames, .inl (K 2, 13, .inr (.inl f_K_keyNames)))] H := hP
  have hD := uDPJ hP hD
  refine lv_aload_n hx hb dX5_readSend_52 rfl (lv_at hl 0 rfl) ?_
  refine uGet (ci := 5) (C := RX5) (T := TX5) (N := 10) (v := .ref a_K) B inlX5 hP 4 rfl rfl 0 rfl mfl_X5_39 rfl rfl dX5_readSend_53 ?_
  refine uGet (ci := 10) (C := RX10) (T := TX10) (N := 10) (v := .int u14) B inlX10 hP 5 rfl rfl 9 rfl mfl_X5_62 rfl rfl dX5_readSend_56 ?_
  refine lv_pc (q := 59) rfl ?_
  refine lv_bipush (v := 9) hx hb dX5_readSend_59 (by decide) ?_
  refine lv_icmp_eq (tgt := 66) hx hb dX5_readSend_61 (by decide) (fun c21 => ?_) (fun c21 => ?_)
  · refine lv_aload_n hx hb dX5_readSend_66 rfl (lv_at hl 0 rfl) ?_
    refine uGet (ci := 5) (C := RX5) (T := TX5) (N := 10) (v := .ref a_K) B inlX5 hP 4 rfl rfl 0 rfl mfl_X5_39 rfl rfl dX5_readSend_67 ?_
    refine uVv (As := []) (rest := []) (wr := [(a_RB, .inr (7, [.ref a_RB_names, .ref a_RB_rows, .ref a_RB_lengths, .ref a_RB_dim, .ref a_RB_orderPosts, .ref a_RB_orderWords, .ref a_RB_orderTwice, .ref a_RB_actCounts, .ref a_RB_acts, .ref a_RB_actNumbers, .ref a_RB_actPosts, .int (nI v_RB_words), .int (nI v_RB_likes), .int (nI v_RB_orders), .int v_RB_minutes, .int v_RB_look])), (a_RB_actPosts, .inl (K 0, 64, .inl (upd f_RB_actPosts x0 (-1)))), (a_E_actNames, .inl (K 2, 64, .inr (.inl (vp_updL f_E_actNames x0 v_K_name)))), (a_E_actPlaces, .inl (K 0, 64, .inl (upd f_E_actPlaces x0 (nI v_K_place)))), (a_E, .inr (5, [.ref a_K, .ref a_E_orderNames, .ref a_E_orderPlaces, .ref a_E_actNames, .ref a_E_actPlaces, .ref a_RB, .int v_E_minutesTold, .int v_E_lookTold, .int u2, .int u3]))]) [(a_K, .inr (10, [.ref a_K_bytes, .ref a_K_keyNames, .int (nI v_K_size), .int (nI v_K_length), .int (nI u9), .int (nI u10), .int (nI u11), .int (nI u12), .long u13, .int u14])), (a_K_bytes, .inl (K 0, 1000, .inl f_K_bytes)), (a_K_keyNames, .inl (K 2, 13, .inr (.inl f_K_keyNames)))] B hl.1 hP hD hS [5, 6, 7] [0, 1, 2, 3, 4] rfl rfl rfl (wX10_advance_vd l D K _ a_K v_K_size v_K_length u9 u10 u11 u12 u13 u14 a_K_bytes f_K_bytes a_K_keyNames f_K_keyNames (by omega) (by omega) (by omega) (by omega) (by omega) (by omega) r_K_bytes i_urKN w19) wd_X10_advance mml_X5_110 rfl rfl rfl rfl ⟨Nat.le_of_ble_eq_true rfl, Nat.le_of_ble_eq_true rfl⟩ (Nat.le_of_ble_eq_true rfl) ⟨Nat.le_of_ble_eq_true rfl, Nat.le_of_ble_eq_true rfl⟩ dX5_readSend_70 (fun u H locs hw hP hD hS => ?_)
    obtain ⟨u23, u24, u25, u26, u27, u28⟩ := u
    try dsimp only at hw
    obtain ⟨w29, w30, w31, w32, w33, w34⟩ := hw
    replace w29 : u23 ≤ 1000 := w29
    replace w30 : u24 ≤ 5 := w30
    replace w31 : u25 ≤ 1000 := w31
    replace w32 : u26 ≤ 1000 := w32
    replace w34 : u25 = urAd f_K_bytes v_K_length u11 := w34
    have hP : va_P D vwCl [(a_RB, .inr (7, [.ref a_RB_names, .ref a_RB_rows, .ref a_RB_lengths, .ref a_RB_dim, .ref a_RB_orderPosts, .ref a_RB_orderWords, .ref a_RB_orderTwice, .ref a_RB_actCounts, .ref a_RB_acts, .ref a_RB_actNumbers, .ref a_RB_actPosts, .int (nI v_RB_words), .int (nI v_RB_likes), .int (nI v_RB_orders), .int v_RB_minutes, .int v_RB_look])), (a_RB_actPosts, .inl (K 0, 64, .inl (upd f_RB_actPosts x0 (-1)))), (a_E_actNames, .inl (K 2, 64, .inr (.inl (vp_updL f_E_actNames x0 v_K_name)))), (a_E_actPlaces, .inl (K 0, 64, .inl (upd f_E_actPlaces x0 (nI v_K_place)))), (a_E, .inr (5, [.ref a_K, .ref a_E_orderNames, .ref a_E_orderPlaces, .ref a_E_actNames, .ref a_E_actPlaces, .ref a_RB, .int v_E_minutesTold, .int v_E_lookTold, .int u2, .int u3])), (a_K, .inr (10, [.ref a_K_bytes, .ref a_K_keyNames, .int (nI v_K_size), .int (nI v_K_length), .int (nI u23), .int (nI u24), .int (nI u25), .int (nI u26), .long u27, .int u28])), (a_K_bytes, .inl (K 0, 1000, .inl f_K_bytes)), (a_K_keyNames, .inl (K 2, 13, .inr (.inl f_K_keyNames)))] H := hP
    have hD := uDPJ hP hD
    refine lv_aload_n hx hb dX5_readSend_73 rfl (lv_at hl 0 rfl) ?_
    refine lv_pc (q := 74) rfl ?_
    refine lv_iconst (v := 0) hx hb dX5_readSend_74 (by decide) ?_
    refine lv_bipush (v := 11) hx hb dX5_readSend_75 (by decide) ?_
    refine uVi (As := [.int 0, .int 11]) (rest := []) (wr := [(a_RB, .inr (7, [.ref a_RB_names, .ref a_RB_rows, .ref a_RB_lengths, .ref a_RB_dim, .ref a_RB_orderPosts, .ref a_RB_orderWords, .ref a_RB_orderTwice, .ref a_RB_actCounts, .ref a_RB_acts, .ref a_RB_actNumbers, .ref a_RB_actPosts, .int (nI v_RB_words), .int (nI v_RB_likes), .int (nI v_RB_orders), .int v_RB_minutes, .int v_RB_look])), (a_RB_actPosts, .inl (K 0, 64, .inl (upd f_RB_actPosts x0 (-1)))), (a_E_actNames, .inl (K 2, 64, .inr (.inl (vp_updL f_E_actNames x0 v_K_name)))), (a_E_actPlaces, .inl (K 0, 64, .inl (upd f_E_actPlaces x0 (nI v_K_place))))]) [(a_E, .inr (5, [.ref a_K, .ref a_E_orderNames, .ref a_E_orderPlaces, .ref a_E_actNames, .ref a_E_actPlaces, .ref a_RB, .int v_E_minutesTold, .int v_E_lookTold, .int u2, .int u3])), (a_K, .inr (10, [.ref a_K_bytes, .ref a_K_keyNames, .int (nI v_K_size), .int (nI v_K_length), .int (nI u23), .int (nI u24), .int (nI u25), .int (nI u26), .long u27, .int u28])), (a_K_bytes, .inl (K 0, 1000, .inl f_K_bytes)), (a_K_keyNames, .inl (K 2, 13, .inr (.inl f_K_keyNames)))] B hl.1 hP hD hS [4, 5, 6, 7] [0, 1, 2, 3] rfl rfl rfl (wX5_atNumber_vc l D K _ a_E v_E_minutesTold v_E_lookTold u2 u3 a_K v_K_size v_K_length u23 u24 u25 u26 u27 u28 a_K_bytes f_K_bytes a_K_keyNames f_K_keyNames a_E_orderNames a_E_orderPlaces a_E_actNames a_E_actPlaces a_RB 0 11 hv_E_minutesTold hv_E_lookTold (by omega) (by omega) (by omega) (by omega) (by omega) (by omega) r_K_bytes (by omega) (by omega) i_urKN w33 w7) wd_X5_atNumber mml_X5_127 rfl rfl rfl rfl ⟨Nat.le_of_ble_eq_true rfl, Nat.le_of_ble_eq_true rfl⟩ (Nat.le_of_ble_eq_true rfl) ⟨Nat.le_of_ble_eq_true rfl, Nat.le_of_ble_eq_true rfl⟩ dX5_readSend_77 (fun r35 u H locs hw hP hD hS => ?_)
    obtain ⟨u36, u37⟩ := u
    try dsimp only at hw
    have w38 := hw
    have hP : va_P D vwCl [(a_RB, .inr (7, [.ref a_RB_names, .ref a_RB_rows, .ref a_RB_lengths, .ref a_RB_dim, .ref a_RB_orderPosts, .ref a_RB_orderWords, .ref a_RB_orderTwice, .ref a_RB_actCounts, .ref a_RB_acts, .ref a_RB_actNumbers, .ref a_RB_actPosts, .int (nI v_RB_words), .int (nI v_RB_likes), .int (nI v_RB_orders), .int v_RB_minutes, .int v_RB_look])), (a_RB_actPosts, .inl (K 0, 64, .inl (upd f_RB_actPosts x0 (-1)))), (a_E_actNames, .inl (K 2, 64, .inr (.inl (vp_updL f_E_actNames x0 v_K_name)))), (a_E_actPlaces, .inl (K 0, 64, .inl (upd f_E_actPlaces x0 (nI v_K_place)))), (a_E, .inr (5, [.ref a_K, .ref a_E_orderNames, .ref a_E_orderPlaces, .ref a_E_actNames, .ref a_E_actPlaces, .ref a_RB, .int v_E_minutesTold, .int v_E_lookTold, .int u36, .int u37])), (a_K, .inr (10, [.ref a_K_bytes, .ref a_K_keyNames, .int (nI v_K_size), .int (nI v_K_length), .int (nI u23), .int (nI u24), .int (nI u25), .int (nI u26), .long u27, .int u28])), (a_K_bytes, .inl (K 0, 1000, .inl f_K_bytes)), (a_K_keyNames, .inl (K 2, 13, .inr (.inl f_K_keyNames)))] H := hP
    have hD := uDPJ hP hD
    rcases w38 with ⟨rfl, w39⟩ | ⟨rfl, w40, w41, w42, w43⟩
    · replace w39 : urIs (urNum f_K_bytes v_K_length 0 11 u25) u36 u37 := w39
      refine lv_if_ne (tgt := 85) hx hb dX5_readSend_80 (by decide) (fun h9 => absurd (by decide) h9) (fun _ => ?_)
      refine lv_iconst (v := 0) hx hb dX5_readSend_83 (by decide) ?_
      exact uRz (u36, u37, upd f_RB_actPosts x0 (-1), u23, u24, u25, u26, u27, u28, vp_updL f_E_actNames x0 v_K_name, upd f_E_actPlaces x0 (nI v_K_place)) B rfl ⟨Or.inl ⟨rfl, (urSndN w6 w20 ((urTkKy w19).symm.trans c21) (by rw [← w34]; exact w39))⟩, (by (try dsimp only); omega), (by (try dsimp only); omega), (by (try dsimp only); omega), (by (try dsimp only); omega), w33⟩ (uSub hP [4, 0, 1, 5, 6, 7, 2, 3] rfl) (hD.sub [4, 0, 1, 5, 6, 7, 2, 3] rfl rfl) hS dX5_readSend_84
    replace w43 : urFs u36 u37 := w43
    refine lv_if_ne (tgt := 85) hx hb dX5_readSend_80 (by decide) (fun _ => ?_) (fun h9 => absurd h9 (by decide))
    refine lv_aload_n hx hb dX5_readSend_85 rfl (lv_at hl 0 rfl) ?_
    refine uGet (ci := 5) (C := RX5) (T := TX5) (N := 10) (v := .ref a_RB) B inlX5 hP 4 rfl rfl 5 rfl mfl_X5_46 rfl rfl dX5_readSend_86 ?_
    refine lv_pc (q := 89) rfl ?_
    refine uGet (ci := 7) (C := RX7) (T := TX7) (N := 16) (v := .ref a_RB_actPosts) B inlX7 hP 0 rfl rfl 10 rfl mfl_X5_176 rfl rfl dX5_readSend_89 ?_
    refine lv_iload_n hx hb dX5_readSend_92 rfl (lv_at hl 1 rfl) ?_
    refine lv_aload_n hx hb dX5_readSend_93 rfl (lv_at hl 0 rfl) ?_
    refine uGet (ci := 5) (C := RX5) (T := TX5) (N := 10) (v := .ref a_K) B inlX5 hP 4 rfl rfl 0 rfl mfl_X5_39 rfl rfl dX5_readSend_94 ?_
    refine uGet (ci := 10) (C := RX10) (T := TX10) (N := 10) (v := .int (nI u26)) B inlX10 hP 5 rfl rfl 7 rfl mfl_X5_113 rfl rfl dX5_readSend_97 ?_
    refine uIast (i := (nI x0)) (j := x0) (ws' := [(a_RB, .inr (7, [.ref a_RB_names, .ref a_RB_rows, .ref a_RB_lengths, .ref a_RB_dim, .ref a_RB_orderPosts, .ref a_RB_orderWords, .ref a_RB_orderTwice, .ref a_RB_actCounts, .ref a_RB_acts, .ref a_RB_actNumbers, .ref a_RB_actPosts, .int (nI v_RB_words), .int (nI v_RB_likes), .int (nI v_RB_orders), .int v_RB_minutes, .int v_RB_look])), (a_RB_actPosts, .inl (K 0, 64, .inl (upd (upd f_RB_actPosts x0 (-1)) x0 (nI u26)))), (a_E_actNames, .inl (K 2, 64, .inr (.inl (vp_updL f_E_actNames x0 v_K_name)))), (a_E_actPlaces, .inl (K 0, 64, .inl (upd f_E_actPlaces x0 (nI v_K_place)))), (a_E, .inr (5, [.ref a_K, .ref a_E_orderNames, .ref a_E_orderPlaces, .ref a_E_actNames, .ref a_E_actPlaces, .ref a_RB, .int v_E_minutesTold, .int v_E_lookTold, .int u36, .int u37])), (a_K, .inr (10, [.ref a_K_bytes, .ref a_K_keyNames, .int (nI v_K_size), .int (nI v_K_length), .int (nI u23), .int (nI u24), .int (nI u25), .int (nI u26), .long u27, .int u28])), (a_K_bytes, .inl (K 0, 1000, .inl f_K_bytes)), (a_K_keyNames, .inl (K 2, 13, .inr (.inl f_K_keyNames)))]) B hP hD hS 1 rfl (nI_in (by omega) (by omega)) (nI_clamp (by omega)) rfl dX5_readSend_100 (fun H locs hP hD hS => ?_)
    refine lv_pc (q := 101) rfl ?_
    refine lv_aload_n hx hb dX5_readSend_101 rfl (lv_at hl 0 rfl) ?_
    refine uGet (ci := 5) (C := RX5) (T := TX5) (N := 10) (v := .ref a_K) B inlX5 hP 4 rfl rfl 0 rfl mfl_X5_39 rfl rfl dX5_readSend_102 ?_
    refine uVv (As := []) (rest := []) (wr := [(a_RB, .inr (7, [.ref a_RB_names, .ref a_RB_rows, .ref a_RB_lengths, .ref a_RB_dim, .ref a_RB_orderPosts, .ref a_RB_orderWords, .ref a_RB_orderTwice, .ref a_RB_actCounts, .ref a_RB_acts, .ref a_RB_actNumbers, .ref a_RB_actPosts, .int (nI v_RB_words), .int (nI v_RB_likes), .int (nI v_RB_orders), .int v_RB_minutes, .int v_RB_look])), (a_RB_actPosts, .inl (K 0, 64, .inl (upd (upd f_RB_actPosts x0 (-1)) x0 (nI u26)))), (a_E_actNames, .inl (K 2, 64, .inr (.inl (vp_updL f_E_actNames x0 v_K_name)))), (a_E_actPlaces, .inl (K 0, 64, .inl (upd f_E_actPlaces x0 (nI v_K_place)))), (a_E, .inr (5, [.ref a_K, .ref a_E_orderNames, .ref a_E_orderPlaces, .ref a_E_actNames, .ref a_E_actPlaces, .ref a_RB, .int v_E_minutesTold, .int v_E_lookTold, .int u36, .int u37]))]) [(a_K, .inr (10, [.ref a_K_bytes, .ref a_K_keyNames, .int (nI v_K_size), .int (nI v_K_length), .int (nI u23), .int (nI u24), .int (nI u25), .int (nI u26), .long u27, .int u28])), (a_K_bytes, .inl (K 0, 1000, .inl f_K_bytes)), (a_K_keyNames, .inl (K 2, 13, .inr (.inl f_K_keyNames)))] B hl.1 hP hD hS [5, 6, 7] [0, 1, 2, 3, 4] rfl rfl rfl (wX10_advance_vd l D K _ a_K v_K_size v_K_length u23 u24 u25 u26 u27 u28 a_K_bytes f_K_bytes a_K_keyNames f_K_keyNames (by omega) (by omega) (by omega) (by omega) (by omega) (by omega) r_K_bytes i_urKN w33) wd_X10_advance mml_X5_110 rfl rfl rfl rfl ⟨Nat.le_of_ble_eq_true rfl, Nat.le_of_ble_eq_true rfl⟩ (Nat.le_of_ble_eq_true rfl) ⟨Nat.le_of_ble_eq_true rfl, Nat.le_of_ble_eq_true rfl⟩ dX5_readSend_105 (fun u H locs hw hP hD hS => ?_)
    obtain ⟨u45, u46, u47, u48, u49, u50⟩ := u
    try dsimp only at hw
    obtain ⟨w51, w52, w53, w54, w55, w56⟩ := hw
    replace w51 : u45 ≤ 1000 := w51
    replace w52 : u46 ≤ 5 := w52
    replace w53 : u47 ≤ 1000 := w53
    replace w54 : u48 ≤ 1000 := w54
    replace w56 : u47 = urAd f_K_bytes v_K_length u25 := w56
    have hP : va_P D vwCl [(a_RB, .inr (7, [.ref a_RB_names, .ref a_RB_rows, .ref a_RB_lengths, .ref a_RB_dim, .ref a_RB_orderPosts, .ref a_RB_orderWords, .ref a_RB_orderTwice, .ref a_RB_actCounts, .ref a_RB_acts, .ref a_RB_actNumbers, .ref a_RB_actPosts, .int (nI v_RB_words), .int (nI v_RB_likes), .int (nI v_RB_orders), .int v_RB_minutes, .int v_RB_look])), (a_RB_actPosts, .inl (K 0, 64, .inl (upd (upd f_RB_actPosts x0 (-1)) x0 (nI u26)))), (a_E_actNames, .inl (K 2, 64, .inr (.inl (vp_updL f_E_actNames x0 v_K_name)))), (a_E_actPlaces, .inl (K 0, 64, .inl (upd f_E_actPlaces x0 (nI v_K_place)))), (a_E, .inr (5, [.ref a_K, .ref a_E_orderNames, .ref a_E_orderPlaces, .ref a_E_actNames, .ref a_E_actPlaces, .ref a_RB, .int v_E_minutesTold, .int v_E_lookTold, .int u36, .int u37])), (a_K, .inr (10, [.ref a_K_bytes, .ref a_K_keyNames, .int (nI v_K_size), .int (nI v_K_length), .int (nI u45), .int (nI u46), .int (nI u47), .int (nI u48), .long u49, .int u50])), (a_K_bytes, .inl (K 0, 1000, .inl f_K_bytes)), (a_K_keyNames, .inl (K 2, 13, .inr (.inl f_K_keyNames)))] H := hP
    have hD := uDPJ hP hD
    refine lv_iconst (v := 1) hx hb dX5_readSend_108 (by decide) ?_
    exact uRz (u36, u37, upd (upd f_RB_actPosts x0 (-1)) x0 (nI u26), u45, u46, u47, u48, u49, u50, vp_updL f_E_actNames x0 v_K_name, upd f_E_actPlaces x0 (nI v_K_place)) B rfl ⟨Or.inr ⟨rfl, (urSndO w6 w20 ((urTkKy w19).symm.trans c21) w34 w40 w56).1, w43, (urSetL (urTkNm i_urTK w6.1)), (urSetU rfl), (urSetUU (urSndO w6 w20 ((urTkKy w19).symm.trans c21) w34 w40 w56).2.symm)⟩, (by (try dsimp only); omega), (by (try dsimp only); omega), (by (try dsimp only); omega), (by (try dsimp only); omega), w55⟩ (uSub hP [4, 0, 1, 5, 6, 7, 2, 3] rfl) (hD.sub [4, 0, 1, 5, 6, 7, 2, 3] rfl rfl) hS dX5_readSend_109
  refine lv_iconst (v := 1) hx hb dX5_readSend_64 (by decide) ?_
  exact uRz (u2, u3, upd f_RB_actPosts x0 (-1), u9, u10, u11, u12, u13, u14, vp_updL f_E_actNames x0 v_K_name, upd f_E_actPlaces x0 (nI v_K_place)) B rfl ⟨Or.inr ⟨rfl, (urSndT w6 w20 (fun q9 => c21 ((urTkKy w19).trans q9))).1, w7, (urSetL (urTkNm i_urTK w6.1)), (urSetU rfl), (urSetU (urSndT w6 w20 (fun q9 => c21 ((urTkKy w19).trans q9))).2.symm)⟩, (by (try dsimp only); omega), (by (try dsimp only); omega), (by (try dsimp only); omega), (by (try dsimp only); omega), w19⟩ (uSub hP [4, 0, 1, 5, 6, 7, 2, 3] rfl) (hD.sub [4, 0, 1, 5, 6, 7, 2, 3] rfl rfl) hS dX5_readSend_65

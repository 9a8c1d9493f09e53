def qwJ7_fill_53178_vF256 (a_F256 : Nat) (f_F256 : Nat → Int32) (x1 : Int32) : ((Nat → Int32)) → Prop := (fun (u : (Nat → Int32)) => True)
def vwJ7_fill_53178_vF256 (K : Nat → ClassId) (a_F256 : Nat) (f_F256 : Nat → Int32) (x1 : Int32) : ((Nat → Int32)) → va_W := (fun (u : (Nat → Int32)) => [(a_F256, .inl (K 0, 256, .inl u))])
set_option maxHeartbeats 4000000 in
set_option maxRecDepth 100000 in
theorem wJ7_fill_53178_vF256 (l : Launch) (D : va_G) (K : Nat → ClassId) (sz : Nat) (a_F256 : Nat) (f_F256 : Nat → Int32) (x1 : Int32) : uMv l yJ7_fill_53178 cJ7_fill_53178 4 { frames := 0, cells := 0, slots := 0, locals := 0 } [.ref a_F256, .int x1] D K [(a_F256, .inl (K 0, 256, .inl f_F256))] sz (qwJ7_fill_53178_vF256 a_F256 f_F256 x1) (vwJ7_fill_53178_vF256 K a_F256 f_F256 x1) := by
  refine uMet (Qc := uQv D (qwJ7_fill_53178_vF256 a_F256 f_F256 x1) (vwJ7_fill_53178_vF256 K a_F256 f_F256 x1)) (ret := none) (by decide) (Nat.le_of_ble_eq_true rfl) ?_
  intro p e s m below meth c A ls hAe hsz B hP hD hS hl
  have hx := B.1
  have hb := B.2.1
  have hl : lv_has ls 4 [(0, .ref a_F256), (1, .int x1)] := hl
  refine lv_iconst (v := 0) hx hb dJ7_fill_53178_0 (by decide) ?_
  refine lv_istore_n (lv' := [(2, .int 0), (0, .ref a_F256), (1, .int x1)]) hx hb dJ7_fill_53178_1 rfl hl (by decide) rfl (fun ls hl => ?_)
  refine lv_aload_n hx hb dJ7_fill_53178_2 rfl (lv_at hl 1 rfl) ?_
  refine uAlen (t0 := 0) (v := 256) B hP 0 rfl rfl rfl dJ7_fill_53178_3 ?_
  refine lv_istore_n (lv' := [(3, .int 256), (2, .int 0), (0, .ref a_F256), (1, .int x1)]) hx hb dJ7_fill_53178_4 rfl hl (by decide) rfl (fun ls hl => ?_)
  have L4 : ∀ (n9 : Nat) (j1 : Nat) (f2 : Nat → Int32), (j1 ≤ 256) → 256 - j1 < n9 → ∀ (H : Heap) (locs : List Loc) (ls : Array Slot), va_P D vwCl [(a_F256, .inl (K 0, 256, .inl f2))] H → va_D A [(a_F256, .inl (K 0, 256, .inl f2))] → va_S A s.heap H locs → lv_has ls 4 [(3, .int 256), (2, .int (nI j1)), (0, .ref a_F256), (1, .int x1)] → W p l e { frames := 0, cells := 0, slots := 0, locals := 0 } s m ([.ref a_F256, .int x1] : List Value).toArray below meth c H locs 0 0 (MQ below (uQv D (qwJ7_fill_53178_vF256 a_F256 f_F256 x1) (vwJ7_fill_53178_vF256 K a_F256 f_F256 x1) A) ([.ref a_F256, .int x1] : List Value).toArray s 0 0 A) (F0 m 5 ls []) := by
    intro n9
    induction n9 with
    | zero => intros; exact absurd ‹_ < 0› (Nat.not_lt_zero _)
    | succ n5_ ih5 =>
      intro j1 f2 hj1 hm5 H locs ls hP hD hS hl
      refine lv_pc (q := 5) rfl ?_
      refine lv_iload_n hx hb dJ7_fill_53178_5 rfl (lv_at hl 1 rfl) ?_
      refine lv_iload_n hx hb dJ7_fill_53178_6 rfl (lv_at hl 0 rfl) ?_
      refine lv_icmp_ge (tgt := 20) hx hb dJ7_fill_53178_7 (by decide) (fun c5 => ?_) (fun c5 => ?_)
      · have k_5 : 256 ≤ j1 := (nI_leI (a := 256) (b := j1) (by omega) (by omega)).mp c5
        exact uRv f2 B trivial (uSub hP [0] rfl) (hD.sub [0] rfl rfl) hS dJ7_fill_53178_20
      have k_5 : ¬ 256 ≤ j1 := fun h9 => c5 ((nI_leI (a := 256) (b := j1) (by omega) (by omega)).mpr h9)
      refine lv_aload_n hx hb dJ7_fill_53178_10 rfl (lv_at hl 2 rfl) ?_
      refine lv_iload_n hx hb dJ7_fill_53178_11 rfl (lv_at hl 1 rfl) ?_
      refine lv_iload_n hx hb dJ7_fill_53178_12 rfl (lv_at hl 3 rfl) ?_
      refine lv_pc (q := 13) rfl ?_
      refine uIast (i := (nI j1)) (j := j1) (ws' := [(a_F256, .inl (K 0, 256, .inl (upd f2 j1 x1)))]) B hP hD hS 0 rfl (nI_in (by omega) (by omega)) (nI_clamp (by omega)) rfl dJ7_fill_53178_13 (fun H locs hP hD hS => ?_)
      refine lv_iinc (v := nI (j1 + 1)) (lv' := [(2, .int (nI (j1 + 1))), (3, .int 256), (0, .ref a_F256), (1, .int x1)]) hx hb dJ7_fill_53178_14 hl (k := 1) rfl (nI_1 _) (by decide) rfl (fun ls hl => ?_)
      refine lv_goto (tgt := 5) hx hb dJ7_fill_53178_17 (by decide) ?_
      refine lv_pc (q := 5) rfl ?_
      refine W.widen (k := 0) (n := 0) (Nat.le_of_ble_eq_true rfl) (Nat.le_of_ble_eq_true rfl) ?_
      exact ih5 (j1 + 1) (upd f2 j1 x1) (by omega) (by omega) _ _ _ (uSub hP [0] rfl) (hD.sub [0] rfl rfl) hS (lv_sub hl [1, 0, 2, 3] rfl)
  refine lv_pc (q := 5) rfl ?_
  refine W.widen (k := 0) (n := 0) (Nat.le_of_ble_eq_true rfl) (Nat.le_of_ble_eq_true rfl) ?_
  exact L4 ((256 - 0) + 1) 0 f_F256 (by omega) (Nat.lt_succ_self _) _ _ _ hP hD hS hl
def qwX11_isSeason (x0 : Int32) (x1 : Int32) : Int32 → (Unit) → Prop := (fun (r : Int32) (u : Unit) => ((r = 0) ∨ (r = 1 ∧ (∃ a : Nat, a < 12 ∧ x0 = nI a) ∧ (∃ a : Nat, a < 2 ∧ x1 = nI a))))
def vwX11_isSeason (K : Nat → ClassId) (x0 : Int32) (x1 : Int32) : (Unit) → va_W := (fun (u : Unit) => [])
set_option maxHeartbeats 4000000 in
set_option maxRecDepth 100000 in
theorem wX11_isSeason (l : Launch) (D : va_G) (K : Nat → ClassId) (sz : Nat) (x0 : Int32) (x1 : Int32) : uMi l yX11_isSeason cX11_isSeason 2 (some .boolean) { frames := 0, cells := 0, slots := 0, locals := 0 } [.int x0, .int x1] D K [] sz (qwX11_isSeason x0 x1) (vwX11_isSeason K x0 x1) := by
  refine uMet (Qc := uQi D (qwX11_isSeason x0 x1) (vwX11_isSeason K x0 x1)) (ret := (some .boolean)) (by decide) (Nat.le_of_ble_eq_true rfl) ?_
  intro p e s m below meth c A ls hAe hsz B hP hD hS hl
  have hx := B.1
  have hb := B.2.1
  have hl : lv_has ls 2 [(0, .int x0), (1, .int x1)] := hl
  refine lv_iload_n hx hb dX11_isSeason_0 rfl (lv_at hl 0 rfl) ?_
  refine lv_if_lt (tgt := 23) hx hb dX11_isSeason_1 (by decide) (fun c1 => ?_) (fun c1 => ?_)
  · refine lv_iconst (v := 0) hx hb dX11_isSeason_23 (by decide) ?_
    exact uRz () B rfl (Or.inl rfl) (uSub hP [] rfl) (hD.sub [] rfl rfl) hS dX11_isSeason_24
  refine lv_iload_n hx hb dX11_isSeason_4 rfl (lv_at hl 0 rfl) ?_
  refine lv_bipush (v := 12) hx hb dX11_isSeason_5 (by decide) ?_
  refine lv_icmp_ge (tgt := 23) hx hb dX11_isSeason_7 (by decide) (fun c2 => ?_) (fun c2 => ?_)
  · refine lv_pc (q := 23) rfl ?_
    refine lv_iconst (v := 0) hx hb dX11_isSeason_23 (by decide) ?_
    exact uRz () B rfl (Or.inl rfl) (uSub hP [] rfl) (hD.sub [] rfl rfl) hS dX11_isSeason_24
  refine lv_pc (q := 10) rfl ?_
  refine lv_iload_n hx hb dX11_isSeason_10 rfl (lv_at hl 1 rfl) ?_
  refine lv_if_lt (tgt := 23) hx hb dX11_isSeason_11 (by decide) (fun c3 => ?_) (fun c3 => ?_)
  · refine lv_iconst (v := 0) hx hb dX11_isSeason_23 (by decide) ?_
    exact uRz () B rfl (Or.inl rfl) (uSub hP [] rfl) (hD.sub [] rfl rfl) hS dX11_isSeason_24
  refine lv_iload_n hx hb dX11_isSeason_14 rfl (lv_at hl 1 rfl) ?_
  refine lv_iconst (v := 2) hx hb dX11_isSeason_15 (by decide) ?_
  refine lv_icmp_ge (tgt := 23) hx hb dX11_isSeason_16 (by decide) (fun c4 => ?_) (fun c4 => ?_)
  · refine lv_iconst (v := 0) hx hb dX11_isSeason_23 (by decide) ?_
    refine lv_pc (q := 24) rfl ?_
    exact uRz () B rfl (Or.inl rfl) (uSub hP [] rfl) (hD.sub [] rfl rfl) hS dX11_isSeason_24
  refine lv_iconst (v := 1) hx hb dX11_isSeason_19 (by decide) ?_
  refine lv_pc (q := 20) rfl ?_
  refine lv_goto (tgt := 24) hx hb dX11_isSeason_20 (by decide) ?_
  exact uRz () B rfl (Or.inr ⟨rfl, (uNat (by simp only [fa_lt, fa_le, fa_eq, Int32.reduceToInt] at c1 c2; omega) (by simp only [fa_lt, fa_le, fa_eq, Int32.reduceToInt] at c1 c2; omega) (by decide)), (uNat (by simp only [fa_lt, fa_le, fa_eq, Int32.reduceToInt] at c3 c4; omega) (by simp only [fa_lt, fa_le, fa_eq, Int32.reduceToInt] at c3 c4; omega) (by decide))⟩) (uSub hP [] rfl) (hD.sub [] rfl rfl) hS dX11_isSeason_24

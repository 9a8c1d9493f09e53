def uTb : List Cond := lw_tbl.filter goodWord
theorem uTb_in : ∀ w ∈ uTb, w ∈ lw_tbl := fun w h => (List.mem_filter.mp h).1
theorem uTb_good : ∀ w ∈ uTb, goodWord w = true := fun w h => (List.mem_filter.mp h).2
theorem mTt {w : Cond} (h : w ∈ tables_1) (g : goodWord w = true) : w ∈ uTb := List.mem_filter.mpr ⟨List.mem_append_right _ h, g⟩
theorem mT1 {w : Cond} (h : w ∈ tables_1_1) (g : goodWord w = true) : w ∈ uTb := mTt (List.mem_append_left _ h) g
theorem mT2 {w : Cond} (h : w ∈ tables_1_2) (g : goodWord w = true) : w ∈ uTb := mTt (List.mem_append_right _ (List.mem_append_left _ h)) g
theorem mT3 {w : Cond} (h : w ∈ tables_1_3) (g : goodWord w = true) : w ∈ uTb := mTt (List.mem_append_right _ (List.mem_append_right _ (List.mem_append_left _ h))) g
theorem mT4 {w : Cond} (h : w ∈ tables_1_4) (g : goodWord w = true) : w ∈ uTb := mTt (List.mem_append_right _ (List.mem_append_right _ (List.mem_append_right _ (List.mem_append_left _ h)))) g
theorem mT5 {w : Cond} (h : w ∈ tables_1_5) (g : goodWord w = true) : w ∈ uTb := mTt (List.mem_append_right _ (List.mem_append_right _ (List.mem_append_right _ (List.mem_append_right _ (List.mem_append_left _ h))))) g
theorem mT6 {w : Cond} (h : w ∈ tables_1_6) (g : goodWord w = true) : w ∈ uTb := mTt (List.mem_append_right _ (List.mem_append_right _ (List.mem_append_right _ (List.mem_append_right _ (List.mem_append_right _ (List.mem_append_left _ h)))))) g
theorem mT7 {w : Cond} (h : w ∈ tables_1_7) (g : goodWord w = true) : w ∈ uTb := mTt (List.mem_append_right _ (List.mem_append_right _ (List.mem_append_right _ (List.mem_append_right _ (List.mem_append_right _ (List.mem_append_right _ (List.mem_append_left _ h))))))) g
theorem mT8 {w : Cond} (h : w ∈ tables_1_8) (g : goodWord w = true) : w ∈ uTb := mTt (List.mem_append_right _ (List.mem_append_right _ (List.mem_append_right _ (List.mem_append_right _ (List.mem_append_right _ (List.mem_append_right _ (List.mem_append_right _ h))))))) g
theorem mTs1 {q : MethodName × Nat} {w : Cond} (h : q ∈ lw_privs_1) (e : Cond.selects q.1.cls q.1 q.1 = w) : w ∈ uTb := by
  subst e
  exact List.mem_filter.mpr ⟨List.mem_append_left _ (List.mem_map.mpr ⟨q, (List.mem_append_left _ h), rfl⟩), rfl⟩
theorem mTs2 {q : MethodName × Nat} {w : Cond} (h : q ∈ lw_privs_2) (e : Cond.selects q.1.cls q.1 q.1 = w) : w ∈ uTb := by
  subst e
  exact List.mem_filter.mpr ⟨List.mem_append_left _ (List.mem_map.mpr ⟨q, (List.mem_append_right _ (List.mem_append_left _ h)), rfl⟩), rfl⟩
theorem mTs3 {q : MethodName × Nat} {w : Cond} (h : q ∈ lw_privs_3) (e : Cond.selects q.1.cls q.1 q.1 = w) : w ∈ uTb := by
  subst e
  exact List.mem_filter.mpr ⟨List.mem_append_left _ (List.mem_map.mpr ⟨q, (List.mem_append_right _ (List.mem_append_right _ (List.mem_append_left _ h))), rfl⟩), rfl⟩
theorem mTs4 {q : MethodName × Nat} {w : Cond} (h : q ∈ lw_privs_4) (e : Cond.selects q.1.cls q.1 q.1 = w) : w ∈ uTb := by
  subst e
  exact List.mem_filter.mpr ⟨List.mem_append_left _ (List.mem_map.mpr ⟨q, (List.mem_append_right _ (List.mem_append_right _ (List.mem_append_right _ (List.mem_append_left _ h)))), rfl⟩), rfl⟩
theorem mTs5 {q : MethodName × Nat} {w : Cond} (h : q ∈ lw_privs_5) (e : Cond.selects q.1.cls q.1 q.1 = w) : w ∈ uTb := by
  subst e
  exact List.mem_filter.mpr ⟨List.mem_append_left _ (List.mem_map.mpr ⟨q, (List.mem_append_right _ (List.mem_append_right _ (List.mem_append_right _ (List.mem_append_right _ (List.mem_append_left _ h))))), rfl⟩), rfl⟩
theorem mTs6 {q : MethodName × Nat} {w : Cond} (h : q ∈ lw_privs_6) (e : Cond.selects q.1.cls q.1 q.1 = w) : w ∈ uTb := by
  subst e
  exact List.mem_filter.mpr ⟨List.mem_append_left _ (List.mem_map.mpr ⟨q, (List.mem_append_right _ (List.mem_append_right _ (List.mem_append_right _ (List.mem_append_right _ (List.mem_append_right _ (List.mem_append_left _ h)))))), rfl⟩), rfl⟩
theorem mTs7 {q : MethodName × Nat} {w : Cond} (h : q ∈ lw_privs_7) (e : Cond.selects q.1.cls q.1 q.1 = w) : w ∈ uTb := by
  subst e
  exact List.mem_filter.mpr ⟨List.mem_append_left _ (List.mem_map.mpr ⟨q, (List.mem_append_right _ (List.mem_append_right _ (List.mem_append_right _ (List.mem_append_right _ (List.mem_append_right _ (List.mem_append_right _ h)))))), rfl⟩), rfl⟩
/-- the words of an own method: instance, static, constructor -/
def uWv (y : MethodName) (C : String) (bytes : ByteArray) (maxL : Nat) (retc : Option FieldType) (n : Nat) : Prop := y.cls = C ∧ Cond.code y bytes maxL retc ∈ uTb ∧ Cond.initialized C ∈ uTb ∧ Cond.instanceMethod y ∈ uTb ∧ Cond.selects C y y ∈ uTb ∧ (y.cls ≠ "java/lang/invoke/MethodHandle" ∧ y.cls ≠ "java/lang/invoke/VarHandle" ∧ (parseMethodDescriptor y.desc).map (fun d => d.parameters.length) = some n)
def uWs (y : MethodName) (bytes : ByteArray) (maxL : Nat) (retc : Option FieldType) (n : Nat) : Prop := Cond.code y bytes maxL retc ∈ uTb ∧ Cond.initialized y.cls ∈ uTb ∧ Cond.static y ∈ uTb ∧ (y.cls ≠ "java/lang/invoke/MethodHandle" ∧ y.cls ≠ "java/lang/invoke/VarHandle" ∧ (parseMethodDescriptor y.desc).map (fun d => d.parameters.length) = some n)
def uWi (y : MethodName) (bytes : ByteArray) (maxL : Nat) (n : Nat) : Prop := Cond.code y bytes maxL none ∈ uTb ∧ Cond.initialized y.cls ∈ uTb ∧ Cond.instanceMethod y ∈ uTb ∧ y.name = "<init>" ∧ (y.cls ≠ "java/lang/invoke/MethodHandle" ∧ y.cls ≠ "java/lang/invoke/VarHandle" ∧ (parseMethodDescriptor y.desc).map (fun d => d.parameters.length) = some n)

theorem min_X11 : Cond.initialized RX11 ∈ uTb := mT1 (List.mem_of_getElem? (i := 1) rfl) rfl
theorem min_X9 : Cond.initialized RX9 ∈ uTb := mT1 (List.mem_of_getElem? (i := 2) rfl) rfl
theorem min_J7 : Cond.initialized RJ7 ∈ uTb := mT1 (List.mem_of_getElem? (i := 3) rfl) rfl
theorem min_X4 : Cond.initialized RX4 ∈ uTb := mT1 (List.mem_of_getElem? (i := 4) rfl) rfl
theorem min_X8 : Cond.initialized RX8 ∈ uTb := mT1 (List.mem_of_getElem? (i := 5) rfl) rfl
theorem min_X3 : Cond.initialized RX3 ∈ uTb := mT1 (List.mem_of_getElem? (i := 6) rfl) rfl
theorem min_X1 : Cond.initialized RX1 ∈ uTb := mT1 (List.mem_of_getElem? (i := 7) rfl) rfl
theorem min_X6 : Cond.initialized RX6 ∈ uTb := mT1 (List.mem_of_getElem? (i := 8) rfl) rfl
theorem min_X10 : Cond.initialized RX10 ∈ uTb := mT1 (List.mem_of_getElem? (i := 9) rfl) rfl
theorem min_J0 : Cond.initialized RJ0 ∈ uTb := mT1 (List.mem_of_getElem? (i := 10) rfl) rfl
theorem min_J1 : Cond.initialized RJ1 ∈ uTb := mT1 (List.mem_of_getElem? (i := 11) rfl) rfl
theorem min_J3 : Cond.initialized RJ3 ∈ uTb := mT1 (List.mem_of_getElem? (i := 12) rfl) rfl
theorem min_X5 : Cond.initialized RX5 ∈ uTb := mT1 (List.mem_of_getElem? (i := 14) rfl) rfl
theorem min_X7 : Cond.initialized RX7 ∈ uTb := mT1 (List.mem_of_getElem? (i := 15) rfl) rfl
theorem min_X2 : Cond.initialized RX2 ∈ uTb := mT1 (List.mem_of_getElem? (i := 16) rfl) rfl
theorem min_X0 : Cond.initialized RX0 ∈ uTb := mT1 (List.mem_of_getElem? (i := 17) rfl) rfl
theorem min_X12 : Cond.initialized RX12 ∈ uTb := mT1 (List.mem_of_getElem? (i := 18) rfl) rfl
theorem min_J9 : Cond.initialized RJ9 ∈ uTb := mT1 (List.mem_of_getElem? (i := 19) rfl) rfl
theorem min_J6 : Cond.initialized RJ6 ∈ uTb := mT1 (List.mem_of_getElem? (i := 20) rfl) rfl
theorem mcl_L_7 : Cond.classLink RL 7 RX11 ∈ uTb := mT1 (List.mem_of_getElem? (i := 21) rfl) rfl
theorem mis_X11 : Cond.instantiable RX11 11 ∈ uTb := mT1 (List.mem_of_getElem? (i := 22) rfl) rfl
theorem mml_L_9 : Cond.methodLink RL 9 yX11_init ∈ uTb := mT1 (List.mem_of_getElem? (i := 23) rfl) rfl
theorem mim_X11_init : Cond.instanceMethod yX11_init ∈ uTb := mT1 (List.mem_of_getElem? (i := 24) rfl) rfl
theorem mco_X11_init : Cond.code yX11_init cX11_init 1 none ∈ uTb := mT1 (List.mem_of_getElem? (i := 25) rfl) rfl
theorem mml_X11_1 : Cond.methodLink RX11 1 objectInit ∈ uTb := mT1 (List.mem_of_getElem? (i := 26) rfl) rfl
theorem mim_objectInit : Cond.instanceMethod objectInit ∈ uTb := mT1 (List.mem_of_getElem? (i := 27) rfl) rfl
theorem mco_objectInit : Cond.code objectInit ⟨#[0xb1]⟩ 1 none ∈ uTb := mT1 (List.mem_of_getElem? (i := 28) rfl) rfl
theorem mcl_X11_7 : Cond.classLink RX11 7 RX9 ∈ uTb := mT1 (List.mem_of_getElem? (i := 29) rfl) rfl
theorem mis_X9 : Cond.instantiable RX9 9 ∈ uTb := mT1 (List.mem_of_getElem? (i := 30) rfl) rfl
theorem mml_X11_9 : Cond.methodLink RX11 9 yX9_init ∈ uTb := mT1 (List.mem_of_getElem? (i := 31) rfl) rfl
theorem mim_X9_init : Cond.instanceMethod yX9_init ∈ uTb := mT1 (List.mem_of_getElem? (i := 32) rfl) rfl
theorem mco_X9_init : Cond.code yX9_init cX9_init 1 none ∈ uTb := mT1 (List.mem_of_getElem? (i := 33) rfl) rfl
theorem mml_X9_3 : Cond.methodLink RX9 3 objectInit ∈ uTb := mT1 (List.mem_of_getElem? (i := 34) rfl) rfl
theorem mml_X9_40 : Cond.methodLink RX9 40 yJ7_fill_53178 ∈ uTb := mT1 (List.mem_of_getElem? (i := 35) rfl) rfl
theorem mst_J7_fill_53178 : Cond.static yJ7_fill_53178 ∈ uTb := mT1 (List.mem_of_getElem? (i := 36) rfl) rfl
theorem mco_J7_fill_53178 : Cond.code yJ7_fill_53178 cJ7_fill_53178 4 none ∈ uTb := mT1 (List.mem_of_getElem? (i := 37) rfl) rfl
theorem mfl_X9_11 : Cond.fieldLink RX9 11 "FrontierDesk$Terrain" "heights" "[I" ∈ uTb := mT1 (List.mem_of_getElem? (i := 38) rfl) rfl
theorem mfl_X4_63 : Cond.fieldLink RX4 63 "FrontierDesk$Terrain" "heights" "[I" ∈ uTb := mT1 (List.mem_of_getElem? (i := 39) rfl) rfl
theorem mfl_X0_102 : Cond.fieldLink RX0 102 "FrontierDesk$Terrain" "heights" "[I" ∈ uTb := mT1 (List.mem_of_getElem? (i := 40) rfl) rfl
theorem mfl_X9_15 : Cond.fieldLink RX9 15 "FrontierDesk$Terrain" "woods" "[I" ∈ uTb := mT1 (List.mem_of_getElem? (i := 41) rfl) rfl
theorem mfl_X0_105 : Cond.fieldLink RX0 105 "FrontierDesk$Terrain" "woods" "[I" ∈ uTb := mT1 (List.mem_of_getElem? (i := 42) rfl) rfl
theorem mfl_X9_18 : Cond.fieldLink RX9 18 "FrontierDesk$Terrain" "treesLow" "[I" ∈ uTb := mT1 (List.mem_of_getElem? (i := 43) rfl) rfl
theorem mfl_X9_21 : Cond.fieldLink RX9 21 "FrontierDesk$Terrain" "treesHigh" "[I" ∈ uTb := mT1 (List.mem_of_getElem? (i := 44) rfl) rfl
theorem mfl_X9_24 : Cond.fieldLink RX9 24 "FrontierDesk$Terrain" "worst" "[I" ∈ uTb := mT1 (List.mem_of_getElem? (i := 45) rfl) rfl
theorem mfl_X8_68 : Cond.fieldLink RX8 68 "FrontierDesk$Terrain" "worst" "[I" ∈ uTb := mT1 (List.mem_of_getElem? (i := 46) rfl) rfl
theorem mfl_X9_27 : Cond.fieldLink RX9 27 "FrontierDesk$Terrain" "best" "[I" ∈ uTb := mT1 (List.mem_of_getElem? (i := 47) rfl) rfl
theorem mfl_X8_79 : Cond.fieldLink RX8 79 "FrontierDesk$Terrain" "best" "[I" ∈ uTb := mT1 (List.mem_of_getElem? (i := 48) rfl) rfl
theorem mfl_X9_30 : Cond.fieldLink RX9 30 "FrontierDesk$Terrain" "width" "I" ∈ uTb := mT1 (List.mem_of_getElem? (i := 49) rfl) rfl
theorem mfl_X8_45 : Cond.fieldLink RX8 45 "FrontierDesk$Terrain" "width" "I" ∈ uTb := mT1 (List.mem_of_getElem? (i := 50) rfl) rfl
theorem mfl_X0_75 : Cond.fieldLink RX0 75 "FrontierDesk$Terrain" "width" "I" ∈ uTb := mT1 (List.mem_of_getElem? (i := 51) rfl) rfl
theorem mfl_X11_282 : Cond.fieldLink RX11 282 "FrontierDesk$Terrain" "width" "I" ∈ uTb := mT1 (List.mem_of_getElem? (i := 52) rfl) rfl
theorem mfl_X9_34 : Cond.fieldLink RX9 34 "FrontierDesk$Terrain" "height" "I" ∈ uTb := mT1 (List.mem_of_getElem? (i := 53) rfl) rfl
theorem mfl_X0_78 : Cond.fieldLink RX0 78 "FrontierDesk$Terrain" "height" "I" ∈ uTb := mT1 (List.mem_of_getElem? (i := 54) rfl) rfl
theorem mfl_X11_285 : Cond.fieldLink RX11 285 "FrontierDesk$Terrain" "height" "I" ∈ uTb := mT1 (List.mem_of_getElem? (i := 55) rfl) rfl
theorem mfl_X9_37 : Cond.fieldLink RX9 37 "FrontierDesk$Terrain" "bending" "I" ∈ uTb := mT1 (List.mem_of_getElem? (i := 56) rfl) rfl
theorem mfl_X8_58 : Cond.fieldLink RX8 58 "FrontierDesk$Terrain" "bending" "I" ∈ uTb := mT1 (List.mem_of_getElem? (i := 57) rfl) rfl
theorem mla_X9_0 : u_lay RX9 TX9 0 ∈ uTb := mT1 (List.mem_of_getElem? (i := 58) rfl) rfl
theorem mla_X9_1 : u_lay RX9 TX9 1 ∈ uTb := mT1 (List.mem_of_getElem? (i := 60) rfl) rfl
theorem mla_X9_2 : u_lay RX9 TX9 2 ∈ uTb := mT1 (List.mem_of_getElem? (i := 62) rfl) rfl
theorem mla_X9_3 : u_lay RX9 TX9 3 ∈ uTb := mT1 (List.mem_of_getElem? (i := 64) rfl) rfl
theorem mla_X9_4 : u_lay RX9 TX9 4 ∈ uTb := mT1 (List.mem_of_getElem? (i := 66) rfl) rfl
theorem mla_X9_5 : u_lay RX9 TX9 5 ∈ uTb := mT1 (List.mem_of_getElem? (i := 68) rfl) rfl
theorem mla_X9_6 : u_lay RX9 TX9 6 ∈ uTb := mT1 (List.mem_of_getElem? (i := 70) rfl) rfl
theorem mla_X9_7 : u_lay RX9 TX9 7 ∈ uTb := mT1 (List.mem_of_getElem? (i := 72) rfl) rfl
theorem mla_X9_8 : u_lay RX9 TX9 8 ∈ uTb := mT1 (List.mem_of_getElem? (i := 74) rfl) rfl
theorem mac_int : Cond.arrayClass .int ∈ uTb := mT1 (List.mem_of_getElem? (i := 77) rfl) rfl
theorem mcl_X11_16 : Cond.classLink RX11 16 RX4 ∈ uTb := mT1 (List.mem_of_getElem? (i := 78) rfl) rfl
theorem mis_X4 : Cond.instantiable RX4 10 ∈ uTb := mT1 (List.mem_of_getElem? (i := 79) rfl) rfl
theorem mml_X11_18 : Cond.methodLink RX11 18 yX4_init ∈ uTb := mT1 (List.mem_of_getElem? (i := 80) rfl) rfl
theorem mim_X4_init : Cond.instanceMethod yX4_init ∈ uTb := mT1 (List.mem_of_getElem? (i := 81) rfl) rfl
theorem mco_X4_init : Cond.code yX4_init cX4_init 2 none ∈ uTb := mT1 (List.mem_of_getElem? (i := 82) rfl) rfl
theorem mml_X4_3 : Cond.methodLink RX4 3 objectInit ∈ uTb := mT1 (List.mem_of_getElem? (i := 83) rfl) rfl
theorem mfl_X4_40 : Cond.fieldLink RX4 40 "FrontierDesk$Posts" "terrain" "LFrontierDesk$Terrain;" ∈ uTb := mT1 (List.mem_of_getElem? (i := 84) rfl) rfl
theorem mfl_X4_9 : Cond.fieldLink RX4 9 "FrontierDesk$Posts" "xs" "[I" ∈ uTb := mT1 (List.mem_of_getElem? (i := 85) rfl) rfl
theorem mfl_X8_19 : Cond.fieldLink RX8 19 "FrontierDesk$Posts" "xs" "[I" ∈ uTb := mT1 (List.mem_of_getElem? (i := 86) rfl) rfl
theorem mfl_X4_15 : Cond.fieldLink RX4 15 "FrontierDesk$Posts" "ys" "[I" ∈ uTb := mT1 (List.mem_of_getElem? (i := 87) rfl) rfl
theorem mfl_X8_31 : Cond.fieldLink RX8 31 "FrontierDesk$Posts" "ys" "[I" ∈ uTb := mT1 (List.mem_of_getElem? (i := 88) rfl) rfl
theorem mfl_X4_18 : Cond.fieldLink RX4 18 "FrontierDesk$Posts" "cells" "[I" ∈ uTb := mT1 (List.mem_of_getElem? (i := 89) rfl) rfl
theorem mfl_X0_68 : Cond.fieldLink RX0 68 "FrontierDesk$Posts" "cells" "[I" ∈ uTb := mT1 (List.mem_of_getElem? (i := 90) rfl) rfl
theorem mfl_X11_264 : Cond.fieldLink RX11 264 "FrontierDesk$Posts" "cells" "[I" ∈ uTb := mT1 (List.mem_of_getElem? (i := 91) rfl) rfl
theorem mfl_X4_21 : Cond.fieldLink RX4 21 "FrontierDesk$Posts" "lows" "[I" ∈ uTb := mT1 (List.mem_of_getElem? (i := 92) rfl) rfl
theorem mfl_X4_24 : Cond.fieldLink RX4 24 "FrontierDesk$Posts" "highs" "[I" ∈ uTb := mT1 (List.mem_of_getElem? (i := 93) rfl) rfl
theorem mfl_X4_27 : Cond.fieldLink RX4 27 "FrontierDesk$Posts" "states" "[I" ∈ uTb := mT1 (List.mem_of_getElem? (i := 94) rfl) rfl
theorem mfl_X0_54 : Cond.fieldLink RX0 54 "FrontierDesk$Posts" "states" "[I" ∈ uTb := mT1 (List.mem_of_getElem? (i := 95) rfl) rfl
theorem mfl_X1_69 : Cond.fieldLink RX1 69 "FrontierDesk$Posts" "states" "[I" ∈ uTb := mT1 (List.mem_of_getElem? (i := 96) rfl) rfl
theorem mfl_X11_216 : Cond.fieldLink RX11 216 "FrontierDesk$Posts" "states" "[I" ∈ uTb := mT1 (List.mem_of_getElem? (i := 97) rfl) rfl
theorem mfl_X4_30 : Cond.fieldLink RX4 30 "FrontierDesk$Posts" "men" "[I" ∈ uTb := mT1 (List.mem_of_getElem? (i := 98) rfl) rfl
theorem mfl_X0_118 : Cond.fieldLink RX0 118 "FrontierDesk$Posts" "men" "[I" ∈ uTb := mT1 (List.mem_of_getElem? (i := 99) rfl) rfl
theorem mfl_X4_33 : Cond.fieldLink RX4 33 "FrontierDesk$Posts" "stores" "[I" ∈ uTb := mT1 (List.mem_of_getElem? (i := 100) rfl) rfl
theorem mfl_X0_125 : Cond.fieldLink RX0 125 "FrontierDesk$Posts" "stores" "[I" ∈ uTb := mT1 (List.mem_of_getElem? (i := 101) rfl) rfl
theorem mfl_X11_267 : Cond.fieldLink RX11 267 "FrontierDesk$Posts" "stores" "[I" ∈ uTb := mT1 (List.mem_of_getElem? (i := 102) rfl) rfl
theorem mfl_X4_36 : Cond.fieldLink RX4 36 "FrontierDesk$Posts" "size" "I" ∈ uTb := mT1 (List.mem_of_getElem? (i := 103) rfl) rfl
theorem mfl_X11_100 : Cond.fieldLink RX11 100 "FrontierDesk$Posts" "size" "I" ∈ uTb := mT1 (List.mem_of_getElem? (i := 104) rfl) rfl
theorem mfl_X1_56 : Cond.fieldLink RX1 56 "FrontierDesk$Posts" "size" "I" ∈ uTb := mT1 (List.mem_of_getElem? (i := 105) rfl) rfl
theorem mfl_X0_49 : Cond.fieldLink RX0 49 "FrontierDesk$Posts" "size" "I" ∈ uTb := mT1 (List.mem_of_getElem? (i := 106) rfl) rfl
theorem mla_X4_0 : u_lay RX4 TX4 0 ∈ uTb := mT1 (List.mem_of_getElem? (i := 107) rfl) rfl
theorem mla_X4_1 : u_lay RX4 TX4 1 ∈ uTb := mT1 (List.mem_of_getElem? (i := 109) rfl) rfl
theorem mla_X4_2 : u_lay RX4 TX4 2 ∈ uTb := mT1 (List.mem_of_getElem? (i := 111) rfl) rfl
theorem mla_X4_3 : u_lay RX4 TX4 3 ∈ uTb := mT1 (List.mem_of_getElem? (i := 113) rfl) rfl
theorem mla_X4_4 : u_lay RX4 TX4 4 ∈ uTb := mT1 (List.mem_of_getElem? (i := 115) rfl) rfl
theorem mla_X4_5 : u_lay RX4 TX4 5 ∈ uTb := mT1 (List.mem_of_getElem? (i := 117) rfl) rfl
theorem mla_X4_6 : u_lay RX4 TX4 6 ∈ uTb := mT1 (List.mem_of_getElem? (i := 119) rfl) rfl
theorem mla_X4_7 : u_lay RX4 TX4 7 ∈ uTb := mT1 (List.mem_of_getElem? (i := 121) rfl) rfl
theorem mla_X4_8 : u_lay RX4 TX4 8 ∈ uTb := mT1 (List.mem_of_getElem? (i := 123) rfl) rfl
theorem mla_X4_9 : u_lay RX4 TX4 9 ∈ uTb := mT1 (List.mem_of_getElem? (i := 125) rfl) rfl
theorem mcl_X11_25 : Cond.classLink RX11 25 RX8 ∈ uTb := mT1 (List.mem_of_getElem? (i := 128) rfl) rfl
theorem mis_X8 : Cond.instantiable RX8 2 ∈ uTb := mT1 (List.mem_of_getElem? (i := 129) rfl) rfl
theorem mml_X11_27 : Cond.methodLink RX11 27 yX8_init ∈ uTb := mT1 (List.mem_of_getElem? (i := 130) rfl) rfl
theorem mim_X8_init : Cond.instanceMethod yX8_init ∈ uTb := mT1 (List.mem_of_getElem? (i := 131) rfl) rfl
theorem mco_X8_init : Cond.code yX8_init cX8_init 3 none ∈ uTb := mT1 (List.mem_of_getElem? (i := 132) rfl) rfl
theorem mml_X8_3 : Cond.methodLink RX8 3 objectInit ∈ uTb := mT1 (List.mem_of_getElem? (i := 133) rfl) rfl
theorem mfl_X8_9 : Cond.fieldLink RX8 9 "FrontierDesk$Sights" "terrain" "LFrontierDesk$Terrain;" ∈ uTb := mT1 (List.mem_of_getElem? (i := 134) rfl) rfl
theorem mfl_X8_15 : Cond.fieldLink RX8 15 "FrontierDesk$Sights" "posts" "LFrontierDesk$Posts;" ∈ uTb := mT1 (List.mem_of_getElem? (i := 135) rfl) rfl
theorem mla_X8_0 : u_lay RX8 TX8 0 ∈ uTb := mT1 (List.mem_of_getElem? (i := 136) rfl) rfl
theorem mla_X8_1 : u_lay RX8 TX8 1 ∈ uTb := mT1 (List.mem_of_getElem? (i := 138) rfl) rfl
theorem mcl_X11_34 : Cond.classLink RX11 34 RX3 ∈ uTb := mT1 (List.mem_of_getElem? (i := 141) rfl) rfl
theorem mis_X3 : Cond.instantiable RX3 10 ∈ uTb := mT1 (List.mem_of_getElem? (i := 142) rfl) rfl
theorem mim_X3_init : Cond.instanceMethod yX3_init ∈ uTb := mT1 (List.mem_of_getElem? (i := 144) rfl) rfl
theorem mco_X3_init : Cond.code yX3_init cX3_init 1 none ∈ uTb := mT1 (List.mem_of_getElem? (i := 145) rfl) rfl
theorem mml_X3_3 : Cond.methodLink RX3 3 objectInit ∈ uTb := mT1 (List.mem_of_getElem? (i := 146) rfl) rfl
theorem mfl_X3_9 : Cond.fieldLink RX3 9 "FrontierDesk$Notes" "sorts" "[I" ∈ uTb := mT1 (List.mem_of_getElem? (i := 147) rfl) rfl
theorem mfl_X3_15 : Cond.fieldLink RX3 15 "FrontierDesk$Notes" "firsts" "[I" ∈ uTb := mT1 (List.mem_of_getElem? (i := 148) rfl) rfl
theorem mfl_X3_18 : Cond.fieldLink RX3 18 "FrontierDesk$Notes" "seconds" "[I" ∈ uTb := mT1 (List.mem_of_getElem? (i := 149) rfl) rfl
theorem mfl_X3_21 : Cond.fieldLink RX3 21 "FrontierDesk$Notes" "struck" "[Z" ∈ uTb := mT1 (List.mem_of_getElem? (i := 150) rfl) rfl
theorem mfl_X3_25 : Cond.fieldLink RX3 25 "FrontierDesk$Notes" "least" "[I" ∈ uTb := mT1 (List.mem_of_getElem? (i := 151) rfl) rfl
theorem mfl_X3_28 : Cond.fieldLink RX3 28 "FrontierDesk$Notes" "greatest" "[I" ∈ uTb := mT1 (List.mem_of_getElem? (i := 152) rfl) rfl
theorem mfl_X3_31 : Cond.fieldLink RX3 31 "FrontierDesk$Notes" "size" "I" ∈ uTb := mT1 (List.mem_of_getElem? (i := 153) rfl) rfl
theorem mfl_X1_37 : Cond.fieldLink RX1 37 "FrontierDesk$Notes" "size" "I" ∈ uTb := mT1 (List.mem_of_getElem? (i := 154) rfl) rfl
theorem mfl_X11_165 : Cond.fieldLink RX11 165 "FrontierDesk$Notes" "size" "I" ∈ uTb := mT1 (List.mem_of_getElem? (i := 155) rfl) rfl
theorem mfl_X3_35 : Cond.fieldLink RX3 35 "FrontierDesk$Notes" "drawnFor" "I" ∈ uTb := mT1 (List.mem_of_getElem? (i := 156) rfl) rfl
theorem mfl_X3_38 : Cond.fieldLink RX3 38 "FrontierDesk$Notes" "agree" "Z" ∈ uTb := mT1 (List.mem_of_getElem? (i := 157) rfl) rfl
theorem mfl_X3_42 : Cond.fieldLink RX3 42 "FrontierDesk$Notes" "quietUpTo" "I" ∈ uTb := mT1 (List.mem_of_getElem? (i := 158) rfl) rfl
theorem mla_X3_0 : u_lay RX3 TX3 0 ∈ uTb := mT1 (List.mem_of_getElem? (i := 159) rfl) rfl
theorem mla_X3_1 : u_lay RX3 TX3 1 ∈ uTb := mT1 (List.mem_of_getElem? (i := 161) rfl) rfl
theorem mla_X3_2 : u_lay RX3 TX3 2 ∈ uTb := mT1 (List.mem_of_getElem? (i := 163) rfl) rfl
theorem mla_X3_3 : u_lay RX3 TX3 3 ∈ uTb := mT1 (List.mem_of_getElem? (i := 165) rfl) rfl
theorem mla_X3_4 : u_lay RX3 TX3 4 ∈ uTb := mT1 (List.mem_of_getElem? (i := 167) rfl) rfl
theorem mla_X3_5 : u_lay RX3 TX3 5 ∈ uTb := mT1 (List.mem_of_getElem? (i := 169) rfl) rfl
theorem mla_X3_6 : u_lay RX3 TX3 6 ∈ uTb := mT1 (List.mem_of_getElem? (i := 171) rfl) rfl
theorem mla_X3_7 : u_lay RX3 TX3 7 ∈ uTb := mT1 (List.mem_of_getElem? (i := 173) rfl) rfl
theorem mla_X3_8 : u_lay RX3 TX3 8 ∈ uTb := mT1 (List.mem_of_getElem? (i := 175) rfl) rfl
theorem mla_X3_9 : u_lay RX3 TX3 9 ∈ uTb := mT1 (List.mem_of_getElem? (i := 177) rfl) rfl
theorem mac_boolean : Cond.arrayClass .boolean ∈ uTb := mT1 (List.mem_of_getElem? (i := 180) rfl) rfl
theorem mcl_X11_41 : Cond.classLink RX11 41 RX1 ∈ uTb := mT1 (List.mem_of_getElem? (i := 181) rfl) rfl
theorem mis_X1 : Cond.instantiable RX1 7 ∈ uTb := mT1 (List.mem_of_getElem? (i := 182) rfl) rfl
theorem mml_X11_43 : Cond.methodLink RX11 43 yX1_init ∈ uTb := mT1 (List.mem_of_getElem? (i := 183) rfl) rfl
theorem mim_X1_init : Cond.instanceMethod yX1_init ∈ uTb := mT1 (List.mem_of_getElem? (i := 184) rfl) rfl
theorem mco_X1_init : Cond.code yX1_init cX1_init 4 none ∈ uTb := mT1 (List.mem_of_getElem? (i := 185) rfl) rfl
theorem mml_X1_3 : Cond.methodLink RX1 3 objectInit ∈ uTb := mT1 (List.mem_of_getElem? (i := 186) rfl) rfl
theorem mfl_X1_25 : Cond.fieldLink RX1 25 "FrontierDesk$Line" "posts" "LFrontierDesk$Posts;" ∈ uTb := mT1 (List.mem_of_getElem? (i := 187) rfl) rfl
theorem mfl_X1_29 : Cond.fieldLink RX1 29 "FrontierDesk$Line" "notes" "LFrontierDesk$Notes;" ∈ uTb := mT1 (List.mem_of_getElem? (i := 188) rfl) rfl
theorem mfl_X1_33 : Cond.fieldLink RX1 33 "FrontierDesk$Line" "sights" "LFrontierDesk$Sights;" ∈ uTb := mT1 (List.mem_of_getElem? (i := 189) rfl) rfl
theorem mfl_X1_9 : Cond.fieldLink RX1 9 "FrontierDesk$Line" "near" "[I" ∈ uTb := mT1 (List.mem_of_getElem? (i := 190) rfl) rfl
theorem mfl_X2_126 : Cond.fieldLink RX2 126 "FrontierDesk$Line" "near" "[I" ∈ uTb := mT1 (List.mem_of_getElem? (i := 191) rfl) rfl
theorem mfl_X1_15 : Cond.fieldLink RX1 15 "FrontierDesk$Line" "clear" "[I" ∈ uTb := mT1 (List.mem_of_getElem? (i := 192) rfl) rfl
theorem mfl_X2_80 : Cond.fieldLink RX2 80 "FrontierDesk$Line" "clear" "[I" ∈ uTb := mT1 (List.mem_of_getElem? (i := 193) rfl) rfl
theorem mfl_X1_18 : Cond.fieldLink RX1 18 "FrontierDesk$Line" "found" "I" ∈ uTb := mT1 (List.mem_of_getElem? (i := 194) rfl) rfl
theorem mfl_X11_188 : Cond.fieldLink RX11 188 "FrontierDesk$Line" "found" "I" ∈ uTb := mT1 (List.mem_of_getElem? (i := 195) rfl) rfl
theorem mfl_X1_22 : Cond.fieldLink RX1 22 "FrontierDesk$Line" "supposed" "I" ∈ uTb := mT1 (List.mem_of_getElem? (i := 196) rfl) rfl
theorem mfl_X6_32 : Cond.fieldLink RX6 32 "FrontierDesk$Line" "supposed" "I" ∈ uTb := mT1 (List.mem_of_getElem? (i := 197) rfl) rfl
theorem mla_X1_0 : u_lay RX1 TX1 0 ∈ uTb := mT1 (List.mem_of_getElem? (i := 198) rfl) rfl
theorem mla_X1_1 : u_lay RX1 TX1 1 ∈ uTb := mT1 (List.mem_of_getElem? (i := 200) rfl) rfl
theorem mla_X1_2 : u_lay RX1 TX1 2 ∈ uTb := mT1 (List.mem_of_getElem? (i := 202) rfl) rfl
theorem mla_X1_3 : u_lay RX1 TX1 3 ∈ uTb := mT1 (List.mem_of_getElem? (i := 204) rfl) rfl
theorem mla_X1_4 : u_lay RX1 TX1 4 ∈ uTb := mT1 (List.mem_of_getElem? (i := 206) rfl) rfl
theorem mla_X1_5 : u_lay RX1 TX1 5 ∈ uTb := mT1 (List.mem_of_getElem? (i := 208) rfl) rfl
theorem mla_X1_6 : u_lay RX1 TX1 6 ∈ uTb := mT1 (List.mem_of_getElem? (i := 210) rfl) rfl
theorem mcl_X11_50 : Cond.classLink RX11 50 RX6 ∈ uTb := mT1 (List.mem_of_getElem? (i := 213) rfl) rfl
theorem mis_X6 : Cond.instantiable RX6 5 ∈ uTb := mT1 (List.mem_of_getElem? (i := 214) rfl) rfl
theorem mim_X6_init : Cond.instanceMethod yX6_init ∈ uTb := mT1 (List.mem_of_getElem? (i := 216) rfl) rfl
theorem mco_X6_init : Cond.code yX6_init cX6_init 1 none ∈ uTb := mT1 (List.mem_of_getElem? (i := 217) rfl) rfl
theorem mml_X6_3 : Cond.methodLink RX6 3 objectInit ∈ uTb := mT1 (List.mem_of_getElem? (i := 218) rfl) rfl
theorem mfl_X6_11 : Cond.fieldLink RX6 11 "FrontierDesk$Rivals" "sets" "[I" ∈ uTb := mT1 (List.mem_of_getElem? (i := 219) rfl) rfl
theorem mfl_X11_210 : Cond.fieldLink RX11 210 "FrontierDesk$Rivals" "sets" "[I" ∈ uTb := mT1 (List.mem_of_getElem? (i := 220) rfl) rfl
theorem mfl_X6_15 : Cond.fieldLink RX6 15 "FrontierDesk$Rivals" "shares" "[I" ∈ uTb := mT1 (List.mem_of_getElem? (i := 221) rfl) rfl
theorem mfl_X11_206 : Cond.fieldLink RX11 206 "FrontierDesk$Rivals" "shares" "[I" ∈ uTb := mT1 (List.mem_of_getElem? (i := 222) rfl) rfl
theorem mfl_X6_18 : Cond.fieldLink RX6 18 "FrontierDesk$Rivals" "size" "I" ∈ uTb := mT1 (List.mem_of_getElem? (i := 223) rfl) rfl
theorem mfl_X11_205 : Cond.fieldLink RX11 205 "FrontierDesk$Rivals" "size" "I" ∈ uTb := mT1 (List.mem_of_getElem? (i := 224) rfl) rfl
theorem mfl_X6_22 : Cond.fieldLink RX6 22 "FrontierDesk$Rivals" "fewest" "I" ∈ uTb := mT1 (List.mem_of_getElem? (i := 225) rfl) rfl
theorem mfl_X6_25 : Cond.fieldLink RX6 25 "FrontierDesk$Rivals" "any" "Z" ∈ uTb := mT1 (List.mem_of_getElem? (i := 226) rfl) rfl
theorem mfl_X11_202 : Cond.fieldLink RX11 202 "FrontierDesk$Rivals" "any" "Z" ∈ uTb := mT1 (List.mem_of_getElem? (i := 227) rfl) rfl
theorem mla_X6_0 : u_lay RX6 TX6 0 ∈ uTb := mT1 (List.mem_of_getElem? (i := 228) rfl) rfl
theorem mla_X6_1 : u_lay RX6 TX6 1 ∈ uTb := mT1 (List.mem_of_getElem? (i := 230) rfl) rfl
theorem mla_X6_2 : u_lay RX6 TX6 2 ∈ uTb := mT1 (List.mem_of_getElem? (i := 232) rfl) rfl
theorem mla_X6_3 : u_lay RX6 TX6 3 ∈ uTb := mT1 (List.mem_of_getElem? (i := 234) rfl) rfl
theorem mla_X6_4 : u_lay RX6 TX6 4 ∈ uTb := mT1 (List.mem_of_getElem? (i := 236) rfl) rfl
theorem mcl_X11_57 : Cond.classLink RX11 57 RX10 ∈ uTb := mT1 (List.mem_of_getElem? (i := 239) rfl) rfl
theorem mis_X10 : Cond.instantiable RX10 10 ∈ uTb := mT2 (List.mem_of_getElem? (i := 0) rfl) rfl
theorem mml_X11_59 : Cond.methodLink RX11 59 yX10_init ∈ uTb := mT2 (List.mem_of_getElem? (i := 1) rfl) rfl
theorem mim_X10_init : Cond.instanceMethod yX10_init ∈ uTb := mT2 (List.mem_of_getElem? (i := 2) rfl) rfl
theorem mco_X10_init : Cond.code yX10_init cX10_init 4 none ∈ uTb := mT2 (List.mem_of_getElem? (i := 3) rfl) rfl
theorem mml_X10_3 : Cond.methodLink RX10 3 objectInit ∈ uTb := mT2 (List.mem_of_getElem? (i := 4) rfl) rfl
theorem mml_X10_47 : Cond.methodLink RX10 47 yJ0_length_8abf5 ∈ uTb := mT2 (List.mem_of_getElem? (i := 6) rfl) rfl
theorem mim_J0_length_8abf5 : Cond.instanceMethod yJ0_length_8abf5 ∈ uTb := mT2 (List.mem_of_getElem? (i := 7) rfl) rfl
theorem mse_J0_length_8abf5 : Cond.selects RJ0 yJ0_length_8abf5 yJ0_length_8abf5 ∈ uTb := mT2 (List.mem_of_getElem? (i := 8) rfl) rfl
theorem mco_J0_length_8abf5 : Cond.code yJ0_length_8abf5 cJ0_length_8abf5 1 (some .int) ∈ uTb := mT2 (List.mem_of_getElem? (i := 9) rfl) rfl
theorem mml_J0_335 : Cond.methodLink RJ0 335 yJ0_coder_7d493 ∈ uTb := mT2 (List.mem_of_getElem? (i := 10) rfl) rfl
theorem mim_J0_coder_7d493 : Cond.instanceMethod yJ0_coder_7d493 ∈ uTb := mT2 (List.mem_of_getElem? (i := 11) rfl) rfl
theorem mse_J0_coder_7d493 : Cond.selects RJ0 yJ0_coder_7d493 yJ0_coder_7d493 ∈ uTb := mT2 (List.mem_of_getElem? (i := 12) rfl) rfl
theorem mco_J0_coder_7d493 : Cond.code yJ0_coder_7d493 cJ0_coder_7d493 1 (some .byte) ∈ uTb := mT2 (List.mem_of_getElem? (i := 13) rfl) rfl
theorem mfl_J0_38 : Cond.fieldLink RJ0 38 "java/lang/String" "COMPACT_STRINGS" "Z" ∈ uTb := mT2 (List.mem_of_getElem? (i := 14) rfl) rfl
theorem mml_X10_52 : Cond.methodLink RX10 52 yJ0_charAt_5068e ∈ uTb := mT2 (List.mem_of_getElem? (i := 16) rfl) rfl
theorem mim_J0_charAt_5068e : Cond.instanceMethod yJ0_charAt_5068e ∈ uTb := mT2 (List.mem_of_getElem? (i := 17) rfl) rfl
theorem mse_J0_charAt_5068e : Cond.selects RJ0 yJ0_charAt_5068e yJ0_charAt_5068e ∈ uTb := mT2 (List.mem_of_getElem? (i := 18) rfl) rfl
theorem mco_J0_charAt_5068e : Cond.code yJ0_charAt_5068e cJ0_charAt_5068e 2 (some .char) ∈ uTb := mT2 (List.mem_of_getElem? (i := 19) rfl) rfl
theorem mml_J0_492 : Cond.methodLink RJ0 492 yJ0_isLatin1_aae02 ∈ uTb := mT2 (List.mem_of_getElem? (i := 20) rfl) rfl
theorem mim_J0_isLatin1_aae02 : Cond.instanceMethod yJ0_isLatin1_aae02 ∈ uTb := mT2 (List.mem_of_getElem? (i := 21) rfl) rfl
theorem mse_J0_isLatin1_aae02 : Cond.selects RJ0 yJ0_isLatin1_aae02 yJ0_isLatin1_aae02 ∈ uTb := mT2 (List.mem_of_getElem? (i := 22) rfl) rfl
theorem mco_J0_isLatin1_aae02 : Cond.code yJ0_isLatin1_aae02 cJ0_isLatin1_aae02 1 (some .boolean) ∈ uTb := mT2 (List.mem_of_getElem? (i := 23) rfl) rfl
theorem mml_J0_495 : Cond.methodLink RJ0 495 yJ1_charAt_3b067 ∈ uTb := mT2 (List.mem_of_getElem? (i := 24) rfl) rfl
theorem mst_J1_charAt_3b067 : Cond.static yJ1_charAt_3b067 ∈ uTb := mT2 (List.mem_of_getElem? (i := 25) rfl) rfl
theorem mco_J1_charAt_3b067 : Cond.code yJ1_charAt_3b067 cJ1_charAt_3b067 2 (some .char) ∈ uTb := mT2 (List.mem_of_getElem? (i := 26) rfl) rfl
theorem mml_J1_9 : Cond.methodLink RJ1 9 yJ0_checkIndex_df160 ∈ uTb := mT2 (List.mem_of_getElem? (i := 27) rfl) rfl
theorem mst_J0_checkIndex_df160 : Cond.static yJ0_checkIndex_df160 ∈ uTb := mT2 (List.mem_of_getElem? (i := 28) rfl) rfl
theorem mco_J0_checkIndex_df160 : Cond.code yJ0_checkIndex_df160 cJ0_checkIndex_df160 2 none ∈ uTb := mT2 (List.mem_of_getElem? (i := 29) rfl) rfl
theorem mfl_J0_1053 : Cond.fieldLink RJ0 1053 "jdk/internal/util/Preconditions" "SIOOBE_FORMATTER" "Ljava/util/function/BiFunction;" ∈ uTb := mT2 (List.mem_of_getElem? (i := 30) rfl) rfl
theorem mml_J0_1059 : Cond.methodLink RJ0 1059 yJ3_checkIndex_8e157 ∈ uTb := mT2 (List.mem_of_getElem? (i := 32) rfl) rfl
theorem mst_J3_checkIndex_8e157 : Cond.static yJ3_checkIndex_8e157 ∈ uTb := mT2 (List.mem_of_getElem? (i := 33) rfl) rfl
theorem mco_J3_checkIndex_8e157 : Cond.code yJ3_checkIndex_8e157 cJ3_checkIndex_8e157 3 (some .int) ∈ uTb := mT2 (List.mem_of_getElem? (i := 34) rfl) rfl
theorem mml_X10_56 : Cond.methodLink RX10 56 yX10_withLetter ∈ uTb := mT2 (List.mem_of_getElem? (i := 54) rfl) rfl
theorem mst_X10_withLetter : Cond.static yX10_withLetter ∈ uTb := mT2 (List.mem_of_getElem? (i := 55) rfl) rfl
theorem mco_X10_withLetter : Cond.code yX10_withLetter cX10_withLetter 3 (some .long) ∈ uTb := mT2 (List.mem_of_getElem? (i := 56) rfl) rfl
theorem mct_X10_60 : Cond.constantLong RX10 60 (32) ∈ uTb := mT2 (List.mem_of_getElem? (i := 57) rfl) rfl
theorem mfl_X10_9 : Cond.fieldLink RX10 9 "FrontierDesk$Tokens" "bytes" "[I" ∈ uTb := mT2 (List.mem_of_getElem? (i := 58) rfl) rfl
theorem mfl_X10_15 : Cond.fieldLink RX10 15 "FrontierDesk$Tokens" "keyNames" "[J" ∈ uTb := mT2 (List.mem_of_getElem? (i := 59) rfl) rfl
theorem mfl_X10_19 : Cond.fieldLink RX10 19 "FrontierDesk$Tokens" "size" "I" ∈ uTb := mT2 (List.mem_of_getElem? (i := 60) rfl) rfl
theorem mfl_X11_227 : Cond.fieldLink RX11 227 "FrontierDesk$Tokens" "size" "I" ∈ uTb := mT2 (List.mem_of_getElem? (i := 61) rfl) rfl
theorem mfl_X10_23 : Cond.fieldLink RX10 23 "FrontierDesk$Tokens" "length" "I" ∈ uTb := mT2 (List.mem_of_getElem? (i := 62) rfl) rfl
theorem mfl_X10_26 : Cond.fieldLink RX10 26 "FrontierDesk$Tokens" "next" "I" ∈ uTb := mT2 (List.mem_of_getElem? (i := 63) rfl) rfl
theorem mfl_X10_29 : Cond.fieldLink RX10 29 "FrontierDesk$Tokens" "kind" "I" ∈ uTb := mT2 (List.mem_of_getElem? (i := 64) rfl) rfl
theorem mfl_X5_54 : Cond.fieldLink RX5 54 "FrontierDesk$Tokens" "kind" "I" ∈ uTb := mT2 (List.mem_of_getElem? (i := 65) rfl) rfl
theorem mfl_X10_32 : Cond.fieldLink RX10 32 "FrontierDesk$Tokens" "place" "I" ∈ uTb := mT2 (List.mem_of_getElem? (i := 66) rfl) rfl
theorem mfl_X5_59 : Cond.fieldLink RX5 59 "FrontierDesk$Tokens" "place" "I" ∈ uTb := mT2 (List.mem_of_getElem? (i := 67) rfl) rfl
theorem mfl_X10_35 : Cond.fieldLink RX10 35 "FrontierDesk$Tokens" "number" "I" ∈ uTb := mT2 (List.mem_of_getElem? (i := 68) rfl) rfl
theorem mfl_X5_113 : Cond.fieldLink RX5 113 "FrontierDesk$Tokens" "number" "I" ∈ uTb := mT2 (List.mem_of_getElem? (i := 69) rfl) rfl
theorem mfl_X10_38 : Cond.fieldLink RX10 38 "FrontierDesk$Tokens" "name" "J" ∈ uTb := mT2 (List.mem_of_getElem? (i := 70) rfl) rfl
theorem mfl_X5_119 : Cond.fieldLink RX5 119 "FrontierDesk$Tokens" "name" "J" ∈ uTb := mT2 (List.mem_of_getElem? (i := 71) rfl) rfl
theorem mfl_X10_42 : Cond.fieldLink RX10 42 "FrontierDesk$Tokens" "key" "I" ∈ uTb := mT2 (List.mem_of_getElem? (i := 72) rfl) rfl
theorem mfl_X5_62 : Cond.fieldLink RX5 62 "FrontierDesk$Tokens" "key" "I" ∈ uTb := mT2 (List.mem_of_getElem? (i := 73) rfl) rfl
theorem mla_X10_0 : u_lay RX10 TX10 0 ∈ uTb := mT2 (List.mem_of_getElem? (i := 74) rfl) rfl
theorem mla_X10_1 : u_lay RX10 TX10 1 ∈ uTb := mT2 (List.mem_of_getElem? (i := 76) rfl) rfl
theorem mla_X10_2 : u_lay RX10 TX10 2 ∈ uTb := mT2 (List.mem_of_getElem? (i := 78) rfl) rfl
theorem mla_X10_3 : u_lay RX10 TX10 3 ∈ uTb := mT2 (List.mem_of_getElem? (i := 80) rfl) rfl
theorem mla_X10_4 : u_lay RX10 TX10 4 ∈ uTb := mT2 (List.mem_of_getElem? (i := 82) rfl) rfl
theorem mla_X10_5 : u_lay RX10 TX10 5 ∈ uTb := mT2 (List.mem_of_getElem? (i := 84) rfl) rfl
theorem mla_X10_6 : u_lay RX10 TX10 6 ∈ uTb := mT2 (List.mem_of_getElem? (i := 86) rfl) rfl
theorem mla_X10_7 : u_lay RX10 TX10 7 ∈ uTb := mT2 (List.mem_of_getElem? (i := 88) rfl) rfl
theorem mla_X10_8 : u_lay RX10 TX10 8 ∈ uTb := mT2 (List.mem_of_getElem? (i := 90) rfl) rfl
theorem mla_X10_9 : u_lay RX10 TX10 9 ∈ uTb := mT2 (List.mem_of_getElem? (i := 92) rfl) rfl
theorem mac_long : Cond.arrayClass .long ∈ uTb := mT2 (List.mem_of_getElem? (i := 95) rfl) rfl
theorem mcl_X11_64 : Cond.classLink RX11 64 RX5 ∈ uTb := mT2 (List.mem_of_getElem? (i := 97) rfl) rfl
theorem mis_X5 : Cond.instantiable RX5 10 ∈ uTb := mT2 (List.mem_of_getElem? (i := 98) rfl) rfl
theorem mml_X11_66 : Cond.methodLink RX11 66 yX5_init ∈ uTb := mT2 (List.mem_of_getElem? (i := 99) rfl) rfl
theorem mim_X5_init : Cond.instanceMethod yX5_init ∈ uTb := mT2 (List.mem_of_getElem? (i := 100) rfl) rfl
theorem mco_X5_init : Cond.code yX5_init cX5_init 2 none ∈ uTb := mT2 (List.mem_of_getElem? (i := 101) rfl) rfl
theorem mml_X5_3 : Cond.methodLink RX5 3 objectInit ∈ uTb := mT2 (List.mem_of_getElem? (i := 102) rfl) rfl
theorem mcl_X5_43 : Cond.classLink RX5 43 RX7 ∈ uTb := mT2 (List.mem_of_getElem? (i := 103) rfl) rfl
theorem mis_X7 : Cond.instantiable RX7 16 ∈ uTb := mT2 (List.mem_of_getElem? (i := 104) rfl) rfl
theorem mim_X7_init : Cond.instanceMethod yX7_init ∈ uTb := mT2 (List.mem_of_getElem? (i := 106) rfl) rfl
theorem mco_X7_init : Cond.code yX7_init cX7_init 1 none ∈ uTb := mT2 (List.mem_of_getElem? (i := 107) rfl) rfl
theorem mml_X7_3 : Cond.methodLink RX7 3 objectInit ∈ uTb := mT2 (List.mem_of_getElem? (i := 108) rfl) rfl
theorem mfl_X7_9 : Cond.fieldLink RX7 9 "FrontierDesk$Rules" "names" "[J" ∈ uTb := mT2 (List.mem_of_getElem? (i := 109) rfl) rfl
theorem mfl_X7_15 : Cond.fieldLink RX7 15 "FrontierDesk$Rules" "rows" "[I" ∈ uTb := mT2 (List.mem_of_getElem? (i := 110) rfl) rfl
theorem mfl_X7_19 : Cond.fieldLink RX7 19 "FrontierDesk$Rules" "lengths" "[I" ∈ uTb := mT2 (List.mem_of_getElem? (i := 111) rfl) rfl
theorem mfl_X7_22 : Cond.fieldLink RX7 22 "FrontierDesk$Rules" "dim" "[I" ∈ uTb := mT2 (List.mem_of_getElem? (i := 112) rfl) rfl
theorem mfl_X7_25 : Cond.fieldLink RX7 25 "FrontierDesk$Rules" "orderPosts" "[I" ∈ uTb := mT2 (List.mem_of_getElem? (i := 113) rfl) rfl
theorem mfl_X2_108 : Cond.fieldLink RX2 108 "FrontierDesk$Rules" "orderPosts" "[I" ∈ uTb := mT2 (List.mem_of_getElem? (i := 114) rfl) rfl
theorem mfl_X5_148 : Cond.fieldLink RX5 148 "FrontierDesk$Rules" "orderPosts" "[I" ∈ uTb := mT2 (List.mem_of_getElem? (i := 115) rfl) rfl
theorem mfl_X7_28 : Cond.fieldLink RX7 28 "FrontierDesk$Rules" "orderWords" "[I" ∈ uTb := mT2 (List.mem_of_getElem? (i := 116) rfl) rfl
theorem mfl_X2_111 : Cond.fieldLink RX2 111 "FrontierDesk$Rules" "orderWords" "[I" ∈ uTb := mT2 (List.mem_of_getElem? (i := 117) rfl) rfl
theorem mfl_X5_179 : Cond.fieldLink RX5 179 "FrontierDesk$Rules" "orderWords" "[I" ∈ uTb := mT2 (List.mem_of_getElem? (i := 118) rfl) rfl
theorem mfl_X7_31 : Cond.fieldLink RX7 31 "FrontierDesk$Rules" "orderTwice" "[Z" ∈ uTb := mT2 (List.mem_of_getElem? (i := 119) rfl) rfl
theorem mfl_X2_114 : Cond.fieldLink RX2 114 "FrontierDesk$Rules" "orderTwice" "[Z" ∈ uTb := mT2 (List.mem_of_getElem? (i := 120) rfl) rfl
theorem mfl_X5_151 : Cond.fieldLink RX5 151 "FrontierDesk$Rules" "orderTwice" "[Z" ∈ uTb := mT2 (List.mem_of_getElem? (i := 121) rfl) rfl
theorem mfl_X7_35 : Cond.fieldLink RX7 35 "FrontierDesk$Rules" "actCounts" "[I" ∈ uTb := mT2 (List.mem_of_getElem? (i := 122) rfl) rfl
theorem mfl_X2_123 : Cond.fieldLink RX2 123 "FrontierDesk$Rules" "actCounts" "[I" ∈ uTb := mT2 (List.mem_of_getElem? (i := 123) rfl) rfl
theorem mfl_X5_155 : Cond.fieldLink RX5 155 "FrontierDesk$Rules" "actCounts" "[I" ∈ uTb := mT2 (List.mem_of_getElem? (i := 124) rfl) rfl
theorem mfl_X7_38 : Cond.fieldLink RX7 38 "FrontierDesk$Rules" "acts" "[I" ∈ uTb := mT2 (List.mem_of_getElem? (i := 125) rfl) rfl
theorem mfl_X2_129 : Cond.fieldLink RX2 129 "FrontierDesk$Rules" "acts" "[I" ∈ uTb := mT2 (List.mem_of_getElem? (i := 126) rfl) rfl
theorem mfl_X5_164 : Cond.fieldLink RX5 164 "FrontierDesk$Rules" "acts" "[I" ∈ uTb := mT2 (List.mem_of_getElem? (i := 127) rfl) rfl
theorem mfl_X7_41 : Cond.fieldLink RX7 41 "FrontierDesk$Rules" "actNumbers" "[I" ∈ uTb := mT2 (List.mem_of_getElem? (i := 128) rfl) rfl
theorem mfl_X2_132 : Cond.fieldLink RX2 132 "FrontierDesk$Rules" "actNumbers" "[I" ∈ uTb := mT2 (List.mem_of_getElem? (i := 129) rfl) rfl
theorem mfl_X5_173 : Cond.fieldLink RX5 173 "FrontierDesk$Rules" "actNumbers" "[I" ∈ uTb := mT2 (List.mem_of_getElem? (i := 130) rfl) rfl
theorem mfl_X7_44 : Cond.fieldLink RX7 44 "FrontierDesk$Rules" "actPosts" "[I" ∈ uTb := mT2 (List.mem_of_getElem? (i := 131) rfl) rfl
theorem mfl_X2_145 : Cond.fieldLink RX2 145 "FrontierDesk$Rules" "actPosts" "[I" ∈ uTb := mT2 (List.mem_of_getElem? (i := 132) rfl) rfl
theorem mfl_X5_176 : Cond.fieldLink RX5 176 "FrontierDesk$Rules" "actPosts" "[I" ∈ uTb := mT2 (List.mem_of_getElem? (i := 133) rfl) rfl
theorem mfl_X7_47 : Cond.fieldLink RX7 47 "FrontierDesk$Rules" "words" "I" ∈ uTb := mT2 (List.mem_of_getElem? (i := 134) rfl) rfl
theorem mfl_X5_65 : Cond.fieldLink RX5 65 "FrontierDesk$Rules" "words" "I" ∈ uTb := mT2 (List.mem_of_getElem? (i := 135) rfl) rfl
theorem mfl_X11_235 : Cond.fieldLink RX11 235 "FrontierDesk$Rules" "words" "I" ∈ uTb := mT2 (List.mem_of_getElem? (i := 136) rfl) rfl
theorem mfl_X7_51 : Cond.fieldLink RX7 51 "FrontierDesk$Rules" "likes" "I" ∈ uTb := mT2 (List.mem_of_getElem? (i := 137) rfl) rfl
theorem mfl_X5_76 : Cond.fieldLink RX5 76 "FrontierDesk$Rules" "likes" "I" ∈ uTb := mT2 (List.mem_of_getElem? (i := 138) rfl) rfl
theorem mfl_X7_54 : Cond.fieldLink RX7 54 "FrontierDesk$Rules" "orders" "I" ∈ uTb := mT2 (List.mem_of_getElem? (i := 139) rfl) rfl
theorem mfl_X5_88 : Cond.fieldLink RX5 88 "FrontierDesk$Rules" "orders" "I" ∈ uTb := mT2 (List.mem_of_getElem? (i := 140) rfl) rfl
theorem mfl_X2_104 : Cond.fieldLink RX2 104 "FrontierDesk$Rules" "orders" "I" ∈ uTb := mT2 (List.mem_of_getElem? (i := 141) rfl) rfl
theorem mfl_X11_288 : Cond.fieldLink RX11 288 "FrontierDesk$Rules" "orders" "I" ∈ uTb := mT2 (List.mem_of_getElem? (i := 142) rfl) rfl
theorem mfl_X7_57 : Cond.fieldLink RX7 57 "FrontierDesk$Rules" "minutes" "I" ∈ uTb := mT2 (List.mem_of_getElem? (i := 143) rfl) rfl
theorem mfl_X5_142 : Cond.fieldLink RX5 142 "FrontierDesk$Rules" "minutes" "I" ∈ uTb := mT2 (List.mem_of_getElem? (i := 144) rfl) rfl
theorem mfl_X11_290 : Cond.fieldLink RX11 290 "FrontierDesk$Rules" "minutes" "I" ∈ uTb := mT2 (List.mem_of_getElem? (i := 145) rfl) rfl
theorem mfl_X7_60 : Cond.fieldLink RX7 60 "FrontierDesk$Rules" "look" "I" ∈ uTb := mT2 (List.mem_of_getElem? (i := 146) rfl) rfl
theorem mfl_X5_145 : Cond.fieldLink RX5 145 "FrontierDesk$Rules" "look" "I" ∈ uTb := mT2 (List.mem_of_getElem? (i := 147) rfl) rfl
theorem mfl_X11_293 : Cond.fieldLink RX11 293 "FrontierDesk$Rules" "look" "I" ∈ uTb := mT2 (List.mem_of_getElem? (i := 148) rfl) rfl
theorem mla_X7_0 : u_lay RX7 TX7 0 ∈ uTb := mT2 (List.mem_of_getElem? (i := 149) rfl) rfl
theorem mla_X7_1 : u_lay RX7 TX7 1 ∈ uTb := mT2 (List.mem_of_getElem? (i := 151) rfl) rfl
theorem mla_X7_2 : u_lay RX7 TX7 2 ∈ uTb := mT2 (List.mem_of_getElem? (i := 153) rfl) rfl
theorem mla_X7_3 : u_lay RX7 TX7 3 ∈ uTb := mT2 (List.mem_of_getElem? (i := 155) rfl) rfl
theorem mla_X7_4 : u_lay RX7 TX7 4 ∈ uTb := mT2 (List.mem_of_getElem? (i := 157) rfl) rfl
theorem mla_X7_5 : u_lay RX7 TX7 5 ∈ uTb := mT2 (List.mem_of_getElem? (i := 159) rfl) rfl
theorem mla_X7_6 : u_lay RX7 TX7 6 ∈ uTb := mT2 (List.mem_of_getElem? (i := 161) rfl) rfl
theorem mla_X7_7 : u_lay RX7 TX7 7 ∈ uTb := mT2 (List.mem_of_getElem? (i := 163) rfl) rfl
theorem mla_X7_8 : u_lay RX7 TX7 8 ∈ uTb := mT2 (List.mem_of_getElem? (i := 165) rfl) rfl
theorem mla_X7_9 : u_lay RX7 TX7 9 ∈ uTb := mT2 (List.mem_of_getElem? (i := 167) rfl) rfl
theorem mla_X7_10 : u_lay RX7 TX7 10 ∈ uTb := mT2 (List.mem_of_getElem? (i := 169) rfl) rfl
theorem mla_X7_11 : u_lay RX7 TX7 11 ∈ uTb := mT2 (List.mem_of_getElem? (i := 171) rfl) rfl
theorem mla_X7_12 : u_lay RX7 TX7 12 ∈ uTb := mT2 (List.mem_of_getElem? (i := 173) rfl) rfl
theorem mla_X7_13 : u_lay RX7 TX7 13 ∈ uTb := mT2 (List.mem_of_getElem? (i := 175) rfl) rfl
theorem mla_X7_14 : u_lay RX7 TX7 14 ∈ uTb := mT2 (List.mem_of_getElem? (i := 177) rfl) rfl
theorem mla_X7_15 : u_lay RX7 TX7 15 ∈ uTb := mT2 (List.mem_of_getElem? (i := 179) rfl) rfl
theorem mfl_X5_39 : Cond.fieldLink RX5 39 "FrontierDesk$Reader" "tokens" "LFrontierDesk$Tokens;" ∈ uTb := mT2 (List.mem_of_getElem? (i := 182) rfl) rfl
theorem mfl_X5_9 : Cond.fieldLink RX5 9 "FrontierDesk$Reader" "orderNames" "[J" ∈ uTb := mT2 (List.mem_of_getElem? (i := 183) rfl) rfl
theorem mfl_X5_15 : Cond.fieldLink RX5 15 "FrontierDesk$Reader" "orderPlaces" "[I" ∈ uTb := mT2 (List.mem_of_getElem? (i := 184) rfl) rfl
theorem mfl_X5_19 : Cond.fieldLink RX5 19 "FrontierDesk$Reader" "actNames" "[J" ∈ uTb := mT2 (List.mem_of_getElem? (i := 185) rfl) rfl
theorem mfl_X5_22 : Cond.fieldLink RX5 22 "FrontierDesk$Reader" "actPlaces" "[I" ∈ uTb := mT2 (List.mem_of_getElem? (i := 186) rfl) rfl
theorem mfl_X5_46 : Cond.fieldLink RX5 46 "FrontierDesk$Reader" "rules" "LFrontierDesk$Rules;" ∈ uTb := mT2 (List.mem_of_getElem? (i := 187) rfl) rfl
theorem mfl_X5_25 : Cond.fieldLink RX5 25 "FrontierDesk$Reader" "minutesTold" "Z" ∈ uTb := mT2 (List.mem_of_getElem? (i := 188) rfl) rfl
theorem mfl_X5_29 : Cond.fieldLink RX5 29 "FrontierDesk$Reader" "lookTold" "Z" ∈ uTb := mT2 (List.mem_of_getElem? (i := 189) rfl) rfl
theorem mfl_X5_32 : Cond.fieldLink RX5 32 "FrontierDesk$Reader" "faultSort" "I" ∈ uTb := mT2 (List.mem_of_getElem? (i := 190) rfl) rfl
theorem mfl_X11_238 : Cond.fieldLink RX11 238 "FrontierDesk$Reader" "faultSort" "I" ∈ uTb := mT2 (List.mem_of_getElem? (i := 191) rfl) rfl
theorem mfl_X5_36 : Cond.fieldLink RX5 36 "FrontierDesk$Reader" "faultPlace" "I" ∈ uTb := mT2 (List.mem_of_getElem? (i := 192) rfl) rfl
theorem mfl_X11_241 : Cond.fieldLink RX11 241 "FrontierDesk$Reader" "faultPlace" "I" ∈ uTb := mT2 (List.mem_of_getElem? (i := 193) rfl) rfl
theorem mla_X5_0 : u_lay RX5 TX5 0 ∈ uTb := mT2 (List.mem_of_getElem? (i := 194) rfl) rfl
theorem mla_X5_1 : u_lay RX5 TX5 1 ∈ uTb := mT2 (List.mem_of_getElem? (i := 196) rfl) rfl
theorem mla_X5_2 : u_lay RX5 TX5 2 ∈ uTb := mT2 (List.mem_of_getElem? (i := 198) rfl) rfl
theorem mla_X5_3 : u_lay RX5 TX5 3 ∈ uTb := mT2 (List.mem_of_getElem? (i := 200) rfl) rfl
theorem mla_X5_4 : u_lay RX5 TX5 4 ∈ uTb := mT2 (List.mem_of_getElem? (i := 202) rfl) rfl
theorem mla_X5_5 : u_lay RX5 TX5 5 ∈ uTb := mT2 (List.mem_of_getElem? (i := 204) rfl) rfl
theorem mla_X5_6 : u_lay RX5 TX5 6 ∈ uTb := mT2 (List.mem_of_getElem? (i := 206) rfl) rfl
theorem mla_X5_7 : u_lay RX5 TX5 7 ∈ uTb := mT2 (List.mem_of_getElem? (i := 208) rfl) rfl
theorem mla_X5_8 : u_lay RX5 TX5 8 ∈ uTb := mT2 (List.mem_of_getElem? (i := 210) rfl) rfl
theorem mla_X5_9 : u_lay RX5 TX5 9 ∈ uTb := mT2 (List.mem_of_getElem? (i := 212) rfl) rfl
theorem mcl_X11_73 : Cond.classLink RX11 73 RX7 ∈ uTb := mT2 (List.mem_of_getElem? (i := 215) rfl) rfl
theorem mcl_X11_80 : Cond.classLink RX11 80 RX2 ∈ uTb := mT2 (List.mem_of_getElem? (i := 217) rfl) rfl
theorem mis_X2 : Cond.instantiable RX2 14 ∈ uTb := mT2 (List.mem_of_getElem? (i := 218) rfl) rfl
theorem mml_X11_82 : Cond.methodLink RX11 82 yX2_init ∈ uTb := mT2 (List.mem_of_getElem? (i := 219) rfl) rfl
theorem mim_X2_init : Cond.instanceMethod yX2_init ∈ uTb := mT2 (List.mem_of_getElem? (i := 220) rfl) rfl
theorem mco_X2_init : Cond.code yX2_init cX2_init 3 none ∈ uTb := mT2 (List.mem_of_getElem? (i := 221) rfl) rfl
theorem mml_X2_3 : Cond.methodLink RX2 3 objectInit ∈ uTb := mT2 (List.mem_of_getElem? (i := 222) rfl) rfl
theorem mcl_X2_22 : Cond.classLink RX2 22 "[[I" ∈ uTb := mT2 (List.mem_of_getElem? (i := 223) rfl) rfl
theorem mfl_X2_51 : Cond.fieldLink RX2 51 "FrontierDesk$Message" "line" "LFrontierDesk$Line;" ∈ uTb := mT2 (List.mem_of_getElem? (i := 225) rfl) rfl
theorem mfl_X2_55 : Cond.fieldLink RX2 55 "FrontierDesk$Message" "rules" "LFrontierDesk$Rules;" ∈ uTb := mT2 (List.mem_of_getElem? (i := 226) rfl) rfl
theorem mfl_X2_9 : Cond.fieldLink RX2 9 "FrontierDesk$Message" "given" "Z" ∈ uTb := mT2 (List.mem_of_getElem? (i := 227) rfl) rfl
theorem mfl_X11_108 : Cond.fieldLink RX11 108 "FrontierDesk$Message" "given" "Z" ∈ uTb := mT2 (List.mem_of_getElem? (i := 228) rfl) rfl
theorem mfl_X2_15 : Cond.fieldLink RX2 15 "FrontierDesk$Message" "spent" "Z" ∈ uTb := mT2 (List.mem_of_getElem? (i := 229) rfl) rfl
theorem mfl_X2_18 : Cond.fieldLink RX2 18 "FrontierDesk$Message" "tallies" "[I" ∈ uTb := mT2 (List.mem_of_getElem? (i := 230) rfl) rfl
theorem mfl_X11_251 : Cond.fieldLink RX11 251 "FrontierDesk$Message" "tallies" "[I" ∈ uTb := mT2 (List.mem_of_getElem? (i := 231) rfl) rfl
theorem mfl_X2_24 : Cond.fieldLink RX2 24 "FrontierDesk$Message" "hearings" "[[I" ∈ uTb := mT2 (List.mem_of_getElem? (i := 232) rfl) rfl
theorem mfl_X2_27 : Cond.fieldLink RX2 27 "FrontierDesk$Message" "ordersDone" "[I" ∈ uTb := mT2 (List.mem_of_getElem? (i := 233) rfl) rfl
theorem mfl_X2_30 : Cond.fieldLink RX2 30 "FrontierDesk$Message" "busyTill" "[I" ∈ uTb := mT2 (List.mem_of_getElem? (i := 234) rfl) rfl
theorem mfl_X2_33 : Cond.fieldLink RX2 33 "FrontierDesk$Message" "deafFrom" "[I" ∈ uTb := mT2 (List.mem_of_getElem? (i := 235) rfl) rfl
theorem mfl_X2_36 : Cond.fieldLink RX2 36 "FrontierDesk$Message" "seenMinutes" "[I" ∈ uTb := mT2 (List.mem_of_getElem? (i := 236) rfl) rfl
theorem mfl_X2_39 : Cond.fieldLink RX2 39 "FrontierDesk$Message" "seenFrom" "[I" ∈ uTb := mT2 (List.mem_of_getElem? (i := 237) rfl) rfl
theorem mfl_X2_42 : Cond.fieldLink RX2 42 "FrontierDesk$Message" "seenBy" "[I" ∈ uTb := mT2 (List.mem_of_getElem? (i := 238) rfl) rfl
theorem mfl_X2_45 : Cond.fieldLink RX2 45 "FrontierDesk$Message" "seenWords" "[I" ∈ uTb := mT2 (List.mem_of_getElem? (i := 239) rfl) rfl
theorem mfl_X2_48 : Cond.fieldLink RX2 48 "FrontierDesk$Message" "turns" "[I" ∈ uTb := mT3 (List.mem_of_getElem? (i := 0) rfl) rfl
theorem mla_X2_0 : u_lay RX2 TX2 0 ∈ uTb := mT3 (List.mem_of_getElem? (i := 1) rfl) rfl
theorem mla_X2_1 : u_lay RX2 TX2 1 ∈ uTb := mT3 (List.mem_of_getElem? (i := 3) rfl) rfl
theorem mla_X2_2 : u_lay RX2 TX2 2 ∈ uTb := mT3 (List.mem_of_getElem? (i := 5) rfl) rfl
theorem mla_X2_3 : u_lay RX2 TX2 3 ∈ uTb := mT3 (List.mem_of_getElem? (i := 7) rfl) rfl
theorem mla_X2_4 : u_lay RX2 TX2 4 ∈ uTb := mT3 (List.mem_of_getElem? (i := 9) rfl) rfl
theorem mla_X2_5 : u_lay RX2 TX2 5 ∈ uTb := mT3 (List.mem_of_getElem? (i := 11) rfl) rfl
theorem mla_X2_6 : u_lay RX2 TX2 6 ∈ uTb := mT3 (List.mem_of_getElem? (i := 13) rfl) rfl
theorem mla_X2_7 : u_lay RX2 TX2 7 ∈ uTb := mT3 (List.mem_of_getElem? (i := 15) rfl) rfl
theorem mla_X2_8 : u_lay RX2 TX2 8 ∈ uTb := mT3 (List.mem_of_getElem? (i := 17) rfl) rfl
theorem mla_X2_9 : u_lay RX2 TX2 9 ∈ uTb := mT3 (List.mem_of_getElem? (i := 19) rfl) rfl
theorem mla_X2_10 : u_lay RX2 TX2 10 ∈ uTb := mT3 (List.mem_of_getElem? (i := 21) rfl) rfl
theorem mla_X2_11 : u_lay RX2 TX2 11 ∈ uTb := mT3 (List.mem_of_getElem? (i := 23) rfl) rfl
theorem mla_X2_12 : u_lay RX2 TX2 12 ∈ uTb := mT3 (List.mem_of_getElem? (i := 25) rfl) rfl
theorem mla_X2_13 : u_lay RX2 TX2 13 ∈ uTb := mT3 (List.mem_of_getElem? (i := 27) rfl) rfl
theorem mcl_X11_89 : Cond.classLink RX11 89 RX0 ∈ uTb := mT3 (List.mem_of_getElem? (i := 30) rfl) rfl
theorem mis_X0 : Cond.instantiable RX0 9 ∈ uTb := mT3 (List.mem_of_getElem? (i := 31) rfl) rfl
theorem mml_X11_91 : Cond.methodLink RX11 91 yX0_init ∈ uTb := mT3 (List.mem_of_getElem? (i := 32) rfl) rfl
theorem mim_X0_init : Cond.instanceMethod yX0_init ∈ uTb := mT3 (List.mem_of_getElem? (i := 33) rfl) rfl
theorem mco_X0_init : Cond.code yX0_init cX0_init 3 none ∈ uTb := mT3 (List.mem_of_getElem? (i := 34) rfl) rfl
theorem mml_X0_5 : Cond.methodLink RX0 5 objectInit ∈ uTb := mT3 (List.mem_of_getElem? (i := 35) rfl) rfl
theorem mcl_X0_13 : Cond.classLink RX0 13 "[[I" ∈ uTb := mT3 (List.mem_of_getElem? (i := 36) rfl) rfl
theorem mfl_X0_41 : Cond.fieldLink RX0 41 "FrontierDesk$Carriage" "terrain" "LFrontierDesk$Terrain;" ∈ uTb := mT3 (List.mem_of_getElem? (i := 37) rfl) rfl
theorem mfl_X0_45 : Cond.fieldLink RX0 45 "FrontierDesk$Carriage" "posts" "LFrontierDesk$Posts;" ∈ uTb := mT3 (List.mem_of_getElem? (i := 38) rfl) rfl
theorem mfl_X0_15 : Cond.fieldLink RX0 15 "FrontierDesk$Carriage" "costs" "[[I" ∈ uTb := mT3 (List.mem_of_getElem? (i := 39) rfl) rfl
theorem mfl_X11_260 : Cond.fieldLink RX11 260 "FrontierDesk$Carriage" "costs" "[[I" ∈ uTb := mT3 (List.mem_of_getElem? (i := 40) rfl) rfl
theorem mfl_X0_20 : Cond.fieldLink RX0 20 "FrontierDesk$Carriage" "measured" "[Z" ∈ uTb := mT3 (List.mem_of_getElem? (i := 41) rfl) rfl
theorem mfl_X0_24 : Cond.fieldLink RX0 24 "FrontierDesk$Carriage" "statesThen" "[I" ∈ uTb := mT3 (List.mem_of_getElem? (i := 42) rfl) rfl
theorem mfl_X0_28 : Cond.fieldLink RX0 28 "FrontierDesk$Carriage" "came" "[I" ∈ uTb := mT3 (List.mem_of_getElem? (i := 43) rfl) rfl
theorem mfl_X0_31 : Cond.fieldLink RX0 31 "FrontierDesk$Carriage" "lacks" "[I" ∈ uTb := mT3 (List.mem_of_getElem? (i := 44) rfl) rfl
theorem mfl_X0_34 : Cond.fieldLink RX0 34 "FrontierDesk$Carriage" "firstFrom" "[I" ∈ uTb := mT3 (List.mem_of_getElem? (i := 45) rfl) rfl
theorem mfl_X0_37 : Cond.fieldLink RX0 37 "FrontierDesk$Carriage" "postsThen" "I" ∈ uTb := mT3 (List.mem_of_getElem? (i := 46) rfl) rfl
theorem mla_X0_0 : u_lay RX0 TX0 0 ∈ uTb := mT3 (List.mem_of_getElem? (i := 47) rfl) rfl
theorem mla_X0_1 : u_lay RX0 TX0 1 ∈ uTb := mT3 (List.mem_of_getElem? (i := 49) rfl) rfl
theorem mla_X0_2 : u_lay RX0 TX0 2 ∈ uTb := mT3 (List.mem_of_getElem? (i := 51) rfl) rfl
theorem mla_X0_3 : u_lay RX0 TX0 3 ∈ uTb := mT3 (List.mem_of_getElem? (i := 53) rfl) rfl
theorem mla_X0_4 : u_lay RX0 TX0 4 ∈ uTb := mT3 (List.mem_of_getElem? (i := 55) rfl) rfl
theorem mla_X0_5 : u_lay RX0 TX0 5 ∈ uTb := mT3 (List.mem_of_getElem? (i := 57) rfl) rfl
theorem mla_X0_6 : u_lay RX0 TX0 6 ∈ uTb := mT3 (List.mem_of_getElem? (i := 59) rfl) rfl
theorem mla_X0_7 : u_lay RX0 TX0 7 ∈ uTb := mT3 (List.mem_of_getElem? (i := 61) rfl) rfl
theorem mla_X0_8 : u_lay RX0 TX0 8 ∈ uTb := mT3 (List.mem_of_getElem? (i := 63) rfl) rfl
theorem mfl_X11_10 : Cond.fieldLink RX11 10 "FrontierDesk" "terrain" "LFrontierDesk$Terrain;" ∈ uTb := mT3 (List.mem_of_getElem? (i := 66) rfl) rfl
theorem mfl_X11_21 : Cond.fieldLink RX11 21 "FrontierDesk" "posts" "LFrontierDesk$Posts;" ∈ uTb := mT3 (List.mem_of_getElem? (i := 67) rfl) rfl
theorem mfl_X11_30 : Cond.fieldLink RX11 30 "FrontierDesk" "sights" "LFrontierDesk$Sights;" ∈ uTb := mT3 (List.mem_of_getElem? (i := 68) rfl) rfl
theorem mfl_X11_37 : Cond.fieldLink RX11 37 "FrontierDesk" "notes" "LFrontierDesk$Notes;" ∈ uTb := mT3 (List.mem_of_getElem? (i := 69) rfl) rfl
theorem mfl_X11_46 : Cond.fieldLink RX11 46 "FrontierDesk" "line" "LFrontierDesk$Line;" ∈ uTb := mT3 (List.mem_of_getElem? (i := 70) rfl) rfl
theorem mfl_X11_53 : Cond.fieldLink RX11 53 "FrontierDesk" "rivals" "LFrontierDesk$Rivals;" ∈ uTb := mT3 (List.mem_of_getElem? (i := 71) rfl) rfl
theorem mfl_X11_60 : Cond.fieldLink RX11 60 "FrontierDesk" "tape" "LFrontierDesk$Tokens;" ∈ uTb := mT3 (List.mem_of_getElem? (i := 72) rfl) rfl
theorem mfl_X11_69 : Cond.fieldLink RX11 69 "FrontierDesk" "reader" "LFrontierDesk$Reader;" ∈ uTb := mT3 (List.mem_of_getElem? (i := 73) rfl) rfl
theorem mfl_X11_85 : Cond.fieldLink RX11 85 "FrontierDesk" "message" "LFrontierDesk$Message;" ∈ uTb := mT3 (List.mem_of_getElem? (i := 74) rfl) rfl
theorem mfl_X11_92 : Cond.fieldLink RX11 92 "FrontierDesk" "carriage" "LFrontierDesk$Carriage;" ∈ uTb := mT3 (List.mem_of_getElem? (i := 75) rfl) rfl
theorem mfl_X11_76 : Cond.fieldLink RX11 76 "FrontierDesk" "orders" "LFrontierDesk$Rules;" ∈ uTb := mT3 (List.mem_of_getElem? (i := 76) rfl) rfl
theorem mla_X11_0 : u_lay RX11 TX11 0 ∈ uTb := mT3 (List.mem_of_getElem? (i := 77) rfl) rfl
theorem mla_X11_1 : u_lay RX11 TX11 1 ∈ uTb := mT3 (List.mem_of_getElem? (i := 79) rfl) rfl
theorem mla_X11_2 : u_lay RX11 TX11 2 ∈ uTb := mT3 (List.mem_of_getElem? (i := 81) rfl) rfl
theorem mla_X11_3 : u_lay RX11 TX11 3 ∈ uTb := mT3 (List.mem_of_getElem? (i := 83) rfl) rfl
theorem mla_X11_4 : u_lay RX11 TX11 4 ∈ uTb := mT3 (List.mem_of_getElem? (i := 85) rfl) rfl
theorem mla_X11_5 : u_lay RX11 TX11 5 ∈ uTb := mT3 (List.mem_of_getElem? (i := 87) rfl) rfl
theorem mla_X11_6 : u_lay RX11 TX11 6 ∈ uTb := mT3 (List.mem_of_getElem? (i := 89) rfl) rfl
theorem mla_X11_7 : u_lay RX11 TX11 7 ∈ uTb := mT3 (List.mem_of_getElem? (i := 91) rfl) rfl
theorem mla_X11_8 : u_lay RX11 TX11 8 ∈ uTb := mT3 (List.mem_of_getElem? (i := 93) rfl) rfl
theorem mla_X11_9 : u_lay RX11 TX11 9 ∈ uTb := mT3 (List.mem_of_getElem? (i := 95) rfl) rfl
theorem mla_X11_10 : u_lay RX11 TX11 10 ∈ uTb := mT3 (List.mem_of_getElem? (i := 97) rfl) rfl
theorem mml_L_13 : Cond.methodLink RL 13 yX11_land ∈ uTb := mT3 (List.mem_of_getElem? (i := 100) rfl) rfl
theorem mim_X11_land : Cond.instanceMethod yX11_land ∈ uTb := mT3 (List.mem_of_getElem? (i := 101) rfl) rfl
theorem mse_X11_land : Cond.selects RX11 yX11_land yX11_land ∈ uTb := mT3 (List.mem_of_getElem? (i := 102) rfl) rfl
theorem mco_X11_land : Cond.code yX11_land cX11_land 3 (some .boolean) ∈ uTb := mT3 (List.mem_of_getElem? (i := 103) rfl) rfl
theorem mml_X11_96 : Cond.methodLink RX11 96 yX9_renew ∈ uTb := mT3 (List.mem_of_getElem? (i := 104) rfl) rfl
theorem mim_X9_renew : Cond.instanceMethod yX9_renew ∈ uTb := mT3 (List.mem_of_getElem? (i := 105) rfl) rfl
theorem mse_X9_renew : Cond.selects RX9 yX9_renew yX9_renew ∈ uTb := mT3 (List.mem_of_getElem? (i := 106) rfl) rfl
theorem mco_X9_renew : Cond.code yX9_renew cX9_renew 3 (some .boolean) ∈ uTb := mT3 (List.mem_of_getElem? (i := 107) rfl) rfl
theorem mml_X11_104 : Cond.methodLink RX11 104 yX3_clear ∈ uTb := mT3 (List.mem_of_getElem? (i := 108) rfl) rfl
theorem mim_X3_clear : Cond.instanceMethod yX3_clear ∈ uTb := mT3 (List.mem_of_getElem? (i := 109) rfl) rfl
theorem mse_X3_clear : Cond.selects RX3 yX3_clear yX3_clear ∈ uTb := mT3 (List.mem_of_getElem? (i := 110) rfl) rfl
theorem mco_X3_clear : Cond.code yX3_clear cX3_clear 1 none ∈ uTb := mT3 (List.mem_of_getElem? (i := 111) rfl) rfl
theorem mml_X11_107 : Cond.methodLink RX11 107 yX6_clear ∈ uTb := mT3 (List.mem_of_getElem? (i := 112) rfl) rfl
theorem mim_X6_clear : Cond.instanceMethod yX6_clear ∈ uTb := mT3 (List.mem_of_getElem? (i := 113) rfl) rfl
theorem mse_X6_clear : Cond.selects RX6 yX6_clear yX6_clear ∈ uTb := mT3 (List.mem_of_getElem? (i := 114) rfl) rfl
theorem mco_X6_clear : Cond.code yX6_clear cX6_clear 1 none ∈ uTb := mT3 (List.mem_of_getElem? (i := 115) rfl) rfl
theorem mml_X11_112 : Cond.methodLink RX11 112 yX0_forgetWays ∈ uTb := mT3 (List.mem_of_getElem? (i := 116) rfl) rfl
theorem mim_X0_forgetWays : Cond.instanceMethod yX0_forgetWays ∈ uTb := mT3 (List.mem_of_getElem? (i := 117) rfl) rfl
theorem mse_X0_forgetWays : Cond.selects RX0 yX0_forgetWays yX0_forgetWays ∈ uTb := mT3 (List.mem_of_getElem? (i := 118) rfl) rfl
theorem mco_X0_forgetWays : Cond.code yX0_forgetWays cX0_forgetWays 2 none ∈ uTb := mT3 (List.mem_of_getElem? (i := 119) rfl) rfl
theorem mml_L_18 : Cond.methodLink RL 18 yX11_ground ∈ uTb := mT3 (List.mem_of_getElem? (i := 120) rfl) rfl
theorem mim_X11_ground : Cond.instanceMethod yX11_ground ∈ uTb := mT3 (List.mem_of_getElem? (i := 121) rfl) rfl
theorem mse_X11_ground : Cond.selects RX11 yX11_ground yX11_ground ∈ uTb := mT3 (List.mem_of_getElem? (i := 122) rfl) rfl
theorem mco_X11_ground : Cond.code yX11_ground cX11_ground 7 (some .boolean) ∈ uTb := mT3 (List.mem_of_getElem? (i := 123) rfl) rfl
theorem mml_X11_115 : Cond.methodLink RX11 115 yX9_lay ∈ uTb := mT3 (List.mem_of_getElem? (i := 124) rfl) rfl
theorem mim_X9_lay : Cond.instanceMethod yX9_lay ∈ uTb := mT3 (List.mem_of_getElem? (i := 125) rfl) rfl
theorem mse_X9_lay : Cond.selects RX9 yX9_lay yX9_lay ∈ uTb := mT3 (List.mem_of_getElem? (i := 126) rfl) rfl
theorem mco_X9_lay : Cond.code yX9_lay cX9_lay 9 (some .boolean) ∈ uTb := mT3 (List.mem_of_getElem? (i := 127) rfl) rfl
theorem mml_X9_46 : Cond.methodLink RX9 46 yX9_has ∈ uTb := mT3 (List.mem_of_getElem? (i := 128) rfl) rfl
theorem mim_X9_has : Cond.instanceMethod yX9_has ∈ uTb := mT3 (List.mem_of_getElem? (i := 129) rfl) rfl
theorem mse_X9_has : Cond.selects RX9 yX9_has yX9_has ∈ uTb := mT3 (List.mem_of_getElem? (i := 130) rfl) rfl
theorem mco_X9_has : Cond.code yX9_has cX9_has 3 (some .boolean) ∈ uTb := mT3 (List.mem_of_getElem? (i := 131) rfl) rfl
theorem mml_X9_50 : Cond.methodLink RX9 50 yX9_cell ∈ uTb := mT3 (List.mem_of_getElem? (i := 132) rfl) rfl
theorem mst_X9_cell : Cond.static yX9_cell ∈ uTb := mT3 (List.mem_of_getElem? (i := 133) rfl) rfl
theorem mco_X9_cell : Cond.code yX9_cell cX9_cell 2 (some .int) ∈ uTb := mT3 (List.mem_of_getElem? (i := 134) rfl) rfl
theorem mml_L_23 : Cond.methodLink RL 23 yX11_trees ∈ uTb := mT3 (List.mem_of_getElem? (i := 135) rfl) rfl
theorem mim_X11_trees : Cond.instanceMethod yX11_trees ∈ uTb := mT3 (List.mem_of_getElem? (i := 136) rfl) rfl
theorem mse_X11_trees : Cond.selects RX11 yX11_trees yX11_trees ∈ uTb := mT3 (List.mem_of_getElem? (i := 137) rfl) rfl
theorem mco_X11_trees : Cond.code yX11_trees cX11_trees 4 (some .boolean) ∈ uTb := mT3 (List.mem_of_getElem? (i := 138) rfl) rfl
theorem mml_X11_119 : Cond.methodLink RX11 119 yX9_plant ∈ uTb := mT3 (List.mem_of_getElem? (i := 139) rfl) rfl
theorem mim_X9_plant : Cond.instanceMethod yX9_plant ∈ uTb := mT3 (List.mem_of_getElem? (i := 140) rfl) rfl
theorem mse_X9_plant : Cond.selects RX9 yX9_plant yX9_plant ∈ uTb := mT3 (List.mem_of_getElem? (i := 141) rfl) rfl
theorem mco_X9_plant : Cond.code yX9_plant cX9_plant 4 (some .boolean) ∈ uTb := mT3 (List.mem_of_getElem? (i := 142) rfl) rfl
theorem mml_L_28 : Cond.methodLink RL 28 yX11_bend ∈ uTb := mT3 (List.mem_of_getElem? (i := 143) rfl) rfl
theorem mim_X11_bend : Cond.instanceMethod yX11_bend ∈ uTb := mT3 (List.mem_of_getElem? (i := 144) rfl) rfl
theorem mse_X11_bend : Cond.selects RX11 yX11_bend yX11_bend ∈ uTb := mT3 (List.mem_of_getElem? (i := 145) rfl) rfl
theorem mco_X11_bend : Cond.code yX11_bend cX11_bend 2 (some .boolean) ∈ uTb := mT3 (List.mem_of_getElem? (i := 146) rfl) rfl
theorem mml_X11_123 : Cond.methodLink RX11 123 yX9_curve ∈ uTb := mT3 (List.mem_of_getElem? (i := 147) rfl) rfl
theorem mim_X9_curve : Cond.instanceMethod yX9_curve ∈ uTb := mT3 (List.mem_of_getElem? (i := 148) rfl) rfl
theorem mse_X9_curve : Cond.selects RX9 yX9_curve yX9_curve ∈ uTb := mT3 (List.mem_of_getElem? (i := 149) rfl) rfl
theorem mco_X9_curve : Cond.code yX9_curve cX9_curve 2 (some .boolean) ∈ uTb := mT3 (List.mem_of_getElem? (i := 150) rfl) rfl
theorem mml_L_33 : Cond.methodLink RL 33 yX11_haze ∈ uTb := mT3 (List.mem_of_getElem? (i := 151) rfl) rfl
theorem mim_X11_haze : Cond.instanceMethod yX11_haze ∈ uTb := mT3 (List.mem_of_getElem? (i := 152) rfl) rfl
theorem mse_X11_haze : Cond.selects RX11 yX11_haze yX11_haze ∈ uTb := mT3 (List.mem_of_getElem? (i := 153) rfl) rfl
theorem mco_X11_haze : Cond.code yX11_haze cX11_haze 5 (some .boolean) ∈ uTb := mT3 (List.mem_of_getElem? (i := 154) rfl) rfl
theorem mml_X11_127 : Cond.methodLink RX11 127 yX9_veil ∈ uTb := mT3 (List.mem_of_getElem? (i := 155) rfl) rfl
theorem mim_X9_veil : Cond.instanceMethod yX9_veil ∈ uTb := mT3 (List.mem_of_getElem? (i := 156) rfl) rfl
theorem mse_X9_veil : Cond.selects RX9 yX9_veil yX9_veil ∈ uTb := mT3 (List.mem_of_getElem? (i := 157) rfl) rfl
theorem mco_X9_veil : Cond.code yX9_veil cX9_veil 5 (some .boolean) ∈ uTb := mT3 (List.mem_of_getElem? (i := 158) rfl) rfl
theorem mst_X11_isSeason : Cond.static yX11_isSeason ∈ uTb := mT3 (List.mem_of_getElem? (i := 160) rfl) rfl
theorem mco_X11_isSeason : Cond.code yX11_isSeason cX11_isSeason 2 (some .boolean) ∈ uTb := mT3 (List.mem_of_getElem? (i := 161) rfl) rfl
theorem mml_L_38 : Cond.methodLink RL 38 yX11_post ∈ uTb := mT3 (List.mem_of_getElem? (i := 162) rfl) rfl
theorem mim_X11_post : Cond.instanceMethod yX11_post ∈ uTb := mT3 (List.mem_of_getElem? (i := 163) rfl) rfl
theorem mse_X11_post : Cond.selects RX11 yX11_post yX11_post ∈ uTb := mT3 (List.mem_of_getElem? (i := 164) rfl) rfl
theorem mco_X11_post : Cond.code yX11_post cX11_post 7 (some .int) ∈ uTb := mT3 (List.mem_of_getElem? (i := 165) rfl) rfl
theorem mml_X11_131 : Cond.methodLink RX11 131 yX4_add ∈ uTb := mT3 (List.mem_of_getElem? (i := 166) rfl) rfl
theorem mim_X4_add : Cond.instanceMethod yX4_add ∈ uTb := mT3 (List.mem_of_getElem? (i := 167) rfl) rfl
theorem mse_X4_add : Cond.selects RX4 yX4_add yX4_add ∈ uTb := mT3 (List.mem_of_getElem? (i := 168) rfl) rfl
theorem mco_X4_add : Cond.code yX4_add cX4_add 7 (some .int) ∈ uTb := mT3 (List.mem_of_getElem? (i := 169) rfl) rfl
theorem mml_X4_44 : Cond.methodLink RX4 44 yX9_has ∈ uTb := mT3 (List.mem_of_getElem? (i := 170) rfl) rfl
theorem mml_X4_50 : Cond.methodLink RX4 50 yX4_isTaken ∈ uTb := mT3 (List.mem_of_getElem? (i := 171) rfl) rfl
theorem mim_X4_isTaken : Cond.instanceMethod yX4_isTaken ∈ uTb := mT3 (List.mem_of_getElem? (i := 173) rfl) rfl
theorem mco_X4_isTaken : Cond.code yX4_isTaken cX4_isTaken 4 (some .boolean) ∈ uTb := mT3 (List.mem_of_getElem? (i := 174) rfl) rfl
theorem mml_X4_53 : Cond.methodLink RX4 53 yX9_cell ∈ uTb := mT3 (List.mem_of_getElem? (i := 175) rfl) rfl
theorem mml_L_43 : Cond.methodLink RL 43 yX11_sight ∈ uTb := mT3 (List.mem_of_getElem? (i := 176) rfl) rfl
theorem mim_X11_sight : Cond.instanceMethod yX11_sight ∈ uTb := mT3 (List.mem_of_getElem? (i := 177) rfl) rfl
theorem mse_X11_sight : Cond.selects RX11 yX11_sight yX11_sight ∈ uTb := mT3 (List.mem_of_getElem? (i := 178) rfl) rfl
theorem mco_X11_sight : Cond.code yX11_sight cX11_sight 5 (some .int) ∈ uTb := mT3 (List.mem_of_getElem? (i := 179) rfl) rfl
theorem mml_X11_135 : Cond.methodLink RX11 135 yX4_arePair ∈ uTb := mT3 (List.mem_of_getElem? (i := 180) rfl) rfl
theorem mim_X4_arePair : Cond.instanceMethod yX4_arePair ∈ uTb := mT3 (List.mem_of_getElem? (i := 181) rfl) rfl
theorem mse_X4_arePair : Cond.selects RX4 yX4_arePair yX4_arePair ∈ uTb := mT3 (List.mem_of_getElem? (i := 182) rfl) rfl
theorem mco_X4_arePair : Cond.code yX4_arePair cX4_arePair 3 (some .boolean) ∈ uTb := mT3 (List.mem_of_getElem? (i := 183) rfl) rfl
theorem mml_X4_60 : Cond.methodLink RX4 60 yX4_stands ∈ uTb := mT3 (List.mem_of_getElem? (i := 184) rfl) rfl
theorem mim_X4_stands : Cond.instanceMethod yX4_stands ∈ uTb := mT3 (List.mem_of_getElem? (i := 185) rfl) rfl
theorem mse_X4_stands : Cond.selects RX4 yX4_stands yX4_stands ∈ uTb := mT3 (List.mem_of_getElem? (i := 186) rfl) rfl
theorem mco_X4_stands : Cond.code yX4_stands cX4_stands 2 (some .boolean) ∈ uTb := mT3 (List.mem_of_getElem? (i := 187) rfl) rfl
theorem mml_X4_57 : Cond.methodLink RX4 57 yX4_has ∈ uTb := mT3 (List.mem_of_getElem? (i := 188) rfl) rfl
theorem mim_X4_has : Cond.instanceMethod yX4_has ∈ uTb := mT3 (List.mem_of_getElem? (i := 189) rfl) rfl
theorem mse_X4_has : Cond.selects RX4 yX4_has yX4_has ∈ uTb := mT3 (List.mem_of_getElem? (i := 190) rfl) rfl
theorem mco_X4_has : Cond.code yX4_has cX4_has 2 (some .boolean) ∈ uTb := mT3 (List.mem_of_getElem? (i := 191) rfl) rfl
theorem mml_X11_138 : Cond.methodLink RX11 138 yX11_isSeason ∈ uTb := mT3 (List.mem_of_getElem? (i := 192) rfl) rfl
theorem mml_X11_141 : Cond.methodLink RX11 141 yX8_levelOf ∈ uTb := mT3 (List.mem_of_getElem? (i := 193) rfl) rfl
theorem mim_X8_levelOf : Cond.instanceMethod yX8_levelOf ∈ uTb := mT3 (List.mem_of_getElem? (i := 194) rfl) rfl
theorem mse_X8_levelOf : Cond.selects RX8 yX8_levelOf yX8_levelOf ∈ uTb := mT3 (List.mem_of_getElem? (i := 195) rfl) rfl
theorem mco_X8_levelOf : Cond.code yX8_levelOf cX8_levelOf 6 (some .int) ∈ uTb := mT3 (List.mem_of_getElem? (i := 196) rfl) rfl
theorem mml_X8_71 : Cond.methodLink RX8 71 yX8_reaches ∈ uTb := mT3 (List.mem_of_getElem? (i := 197) rfl) rfl
theorem mim_X8_reaches : Cond.instanceMethod yX8_reaches ∈ uTb := mT3 (List.mem_of_getElem? (i := 199) rfl) rfl
theorem mco_X8_reaches : Cond.code yX8_reaches cX8_reaches 6 (some .boolean) ∈ uTb := mT3 (List.mem_of_getElem? (i := 200) rfl) rfl
theorem mml_X8_75 : Cond.methodLink RX8 75 yX8_firstShut ∈ uTb := mT3 (List.mem_of_getElem? (i := 201) rfl) rfl
theorem mim_X8_firstShut : Cond.instanceMethod yX8_firstShut ∈ uTb := mT3 (List.mem_of_getElem? (i := 202) rfl) rfl
theorem mse_X8_firstShut : Cond.selects RX8 yX8_firstShut yX8_firstShut ∈ uTb := mT3 (List.mem_of_getElem? (i := 203) rfl) rfl
theorem mco_X8_firstShut : Cond.code yX8_firstShut cX8_firstShut 6 (some .int) ∈ uTb := mT3 (List.mem_of_getElem? (i := 204) rfl) rfl
theorem mml_X8_38 : Cond.methodLink RX8 38 yX8_span ∈ uTb := mT3 (List.mem_of_getElem? (i := 205) rfl) rfl
theorem mim_X8_span : Cond.instanceMethod yX8_span ∈ uTb := mT3 (List.mem_of_getElem? (i := 207) rfl) rfl
theorem mco_X8_span : Cond.code yX8_span cX8_span 5 (some .int) ∈ uTb := mT3 (List.mem_of_getElem? (i := 208) rfl) rfl
theorem mml_X8_25 : Cond.methodLink RX8 25 yJ9_abs_0f7a4 ∈ uTb := mT3 (List.mem_of_getElem? (i := 209) rfl) rfl
theorem mst_J9_abs_0f7a4 : Cond.static yJ9_abs_0f7a4 ∈ uTb := mT3 (List.mem_of_getElem? (i := 210) rfl) rfl
theorem mco_J9_abs_0f7a4 : Cond.code yJ9_abs_0f7a4 cJ9_abs_0f7a4 1 (some .int) ∈ uTb := mT3 (List.mem_of_getElem? (i := 211) rfl) rfl
theorem mml_X8_34 : Cond.methodLink RX8 34 yJ9_max_7cf53 ∈ uTb := mT3 (List.mem_of_getElem? (i := 212) rfl) rfl
theorem mst_J9_max_7cf53 : Cond.static yJ9_max_7cf53 ∈ uTb := mT3 (List.mem_of_getElem? (i := 213) rfl) rfl
theorem mco_J9_max_7cf53 : Cond.code yJ9_max_7cf53 cJ9_max_7cf53 2 (some .int) ∈ uTb := mT3 (List.mem_of_getElem? (i := 214) rfl) rfl
theorem mml_X8_64 : Cond.methodLink RX8 64 yX8_excess ∈ uTb := mT3 (List.mem_of_getElem? (i := 215) rfl) rfl
theorem mim_X8_excess : Cond.instanceMethod yX8_excess ∈ uTb := mT3 (List.mem_of_getElem? (i := 217) rfl) rfl
theorem mco_X8_excess : Cond.code yX8_excess cX8_excess 11 (some .int) ∈ uTb := mT3 (List.mem_of_getElem? (i := 218) rfl) rfl
theorem mml_X8_41 : Cond.methodLink RX8 41 yX8_between ∈ uTb := mT3 (List.mem_of_getElem? (i := 219) rfl) rfl
theorem mst_X8_between : Cond.static yX8_between ∈ uTb := mT3 (List.mem_of_getElem? (i := 220) rfl) rfl
theorem mco_X8_between : Cond.code yX8_between cX8_between 4 (some .int) ∈ uTb := mT3 (List.mem_of_getElem? (i := 221) rfl) rfl
theorem mml_X8_51 : Cond.methodLink RX8 51 yX9_cell ∈ uTb := mT3 (List.mem_of_getElem? (i := 222) rfl) rfl
theorem mml_X8_54 : Cond.methodLink RX8 54 yX9_topAt ∈ uTb := mT3 (List.mem_of_getElem? (i := 223) rfl) rfl
theorem mim_X9_topAt : Cond.instanceMethod yX9_topAt ∈ uTb := mT3 (List.mem_of_getElem? (i := 224) rfl) rfl
theorem mse_X9_topAt : Cond.selects RX9 yX9_topAt yX9_topAt ∈ uTb := mT3 (List.mem_of_getElem? (i := 225) rfl) rfl
theorem mco_X9_topAt : Cond.code yX9_topAt cX9_topAt 4 (some .int) ∈ uTb := mT3 (List.mem_of_getElem? (i := 226) rfl) rfl
theorem mml_X8_61 : Cond.methodLink RX8 61 yX4_eyeOf ∈ uTb := mT3 (List.mem_of_getElem? (i := 227) rfl) rfl
theorem mim_X4_eyeOf : Cond.instanceMethod yX4_eyeOf ∈ uTb := mT3 (List.mem_of_getElem? (i := 228) rfl) rfl
theorem mse_X4_eyeOf : Cond.selects RX4 yX4_eyeOf yX4_eyeOf ∈ uTb := mT3 (List.mem_of_getElem? (i := 229) rfl) rfl
theorem mco_X4_eyeOf : Cond.code yX4_eyeOf cX4_eyeOf 3 (some .int) ∈ uTb := mT3 (List.mem_of_getElem? (i := 230) rfl) rfl
theorem mml_L_48 : Cond.methodLink RL 48 yX11_block ∈ uTb := mT3 (List.mem_of_getElem? (i := 231) rfl) rfl
theorem mim_X11_block : Cond.instanceMethod yX11_block ∈ uTb := mT3 (List.mem_of_getElem? (i := 232) rfl) rfl
theorem mse_X11_block : Cond.selects RX11 yX11_block yX11_block ∈ uTb := mT3 (List.mem_of_getElem? (i := 233) rfl) rfl
theorem mco_X11_block : Cond.code yX11_block cX11_block 5 (some .int) ∈ uTb := mT3 (List.mem_of_getElem? (i := 234) rfl) rfl
theorem mml_X11_145 : Cond.methodLink RX11 145 yX8_firstShut ∈ uTb := mT3 (List.mem_of_getElem? (i := 235) rfl) rfl
theorem mml_X11_149 : Cond.methodLink RX11 149 yX8_numberAt ∈ uTb := mT3 (List.mem_of_getElem? (i := 236) rfl) rfl
theorem mim_X8_numberAt : Cond.instanceMethod yX8_numberAt ∈ uTb := mT3 (List.mem_of_getElem? (i := 237) rfl) rfl
theorem mse_X8_numberAt : Cond.selects RX8 yX8_numberAt yX8_numberAt ∈ uTb := mT3 (List.mem_of_getElem? (i := 238) rfl) rfl
theorem mco_X8_numberAt : Cond.code yX8_numberAt cX8_numberAt 7 (some .int) ∈ uTb := mT3 (List.mem_of_getElem? (i := 239) rfl) rfl
theorem mml_L_53 : Cond.methodLink RL 53 yX11_raise ∈ uTb := mT4 (List.mem_of_getElem? (i := 0) rfl) rfl
theorem mim_X11_raise : Cond.instanceMethod yX11_raise ∈ uTb := mT4 (List.mem_of_getElem? (i := 1) rfl) rfl
theorem mse_X11_raise : Cond.selects RX11 yX11_raise yX11_raise ∈ uTb := mT4 (List.mem_of_getElem? (i := 2) rfl) rfl
theorem mco_X11_raise : Cond.code yX11_raise cX11_raise 3 (some .int) ∈ uTb := mT4 (List.mem_of_getElem? (i := 3) rfl) rfl
theorem mml_X11_153 : Cond.methodLink RX11 153 yX8_metresLacking ∈ uTb := mT4 (List.mem_of_getElem? (i := 4) rfl) rfl
theorem mim_X8_metresLacking : Cond.instanceMethod yX8_metresLacking ∈ uTb := mT4 (List.mem_of_getElem? (i := 5) rfl) rfl
theorem mse_X8_metresLacking : Cond.selects RX8 yX8_metresLacking yX8_metresLacking ∈ uTb := mT4 (List.mem_of_getElem? (i := 6) rfl) rfl
theorem mco_X8_metresLacking : Cond.code yX8_metresLacking cX8_metresLacking 8 (some .int) ∈ uTb := mT4 (List.mem_of_getElem? (i := 7) rfl) rfl
theorem mml_L_58 : Cond.methodLink RL 58 yX11_note ∈ uTb := mT4 (List.mem_of_getElem? (i := 8) rfl) rfl
theorem mim_X11_note : Cond.instanceMethod yX11_note ∈ uTb := mT4 (List.mem_of_getElem? (i := 9) rfl) rfl
theorem mse_X11_note : Cond.selects RX11 yX11_note yX11_note ∈ uTb := mT4 (List.mem_of_getElem? (i := 10) rfl) rfl
theorem mco_X11_note : Cond.code yX11_note cX11_note 5 (some .int) ∈ uTb := mT4 (List.mem_of_getElem? (i := 11) rfl) rfl
theorem mml_X11_157 : Cond.methodLink RX11 157 yX4_has ∈ uTb := mT4 (List.mem_of_getElem? (i := 12) rfl) rfl
theorem mml_X11_160 : Cond.methodLink RX11 160 yX11_isYear ∈ uTb := mT4 (List.mem_of_getElem? (i := 13) rfl) rfl
theorem mst_X11_isYear : Cond.static yX11_isYear ∈ uTb := mT4 (List.mem_of_getElem? (i := 14) rfl) rfl
theorem mco_X11_isYear : Cond.code yX11_isYear cX11_isYear 1 (some .boolean) ∈ uTb := mT4 (List.mem_of_getElem? (i := 15) rfl) rfl
theorem mml_X11_163 : Cond.methodLink RX11 163 yX3_add ∈ uTb := mT4 (List.mem_of_getElem? (i := 16) rfl) rfl
theorem mim_X3_add : Cond.instanceMethod yX3_add ∈ uTb := mT4 (List.mem_of_getElem? (i := 17) rfl) rfl
theorem mse_X3_add : Cond.selects RX3 yX3_add yX3_add ∈ uTb := mT4 (List.mem_of_getElem? (i := 18) rfl) rfl
theorem mco_X3_add : Cond.code yX3_add cX3_add 4 (some .int) ∈ uTb := mT4 (List.mem_of_getElem? (i := 19) rfl) rfl
theorem mml_L_63 : Cond.methodLink RL 63 yX11_strike ∈ uTb := mT4 (List.mem_of_getElem? (i := 20) rfl) rfl
theorem mim_X11_strike : Cond.instanceMethod yX11_strike ∈ uTb := mT4 (List.mem_of_getElem? (i := 21) rfl) rfl
theorem mse_X11_strike : Cond.selects RX11 yX11_strike yX11_strike ∈ uTb := mT4 (List.mem_of_getElem? (i := 22) rfl) rfl
theorem mco_X11_strike : Cond.code yX11_strike cX11_strike 2 (some .int) ∈ uTb := mT4 (List.mem_of_getElem? (i := 23) rfl) rfl
theorem mml_L_68 : Cond.methodLink RL 68 yX11_years ∈ uTb := mT4 (List.mem_of_getElem? (i := 24) rfl) rfl
theorem mim_X11_years : Cond.instanceMethod yX11_years ∈ uTb := mT4 (List.mem_of_getElem? (i := 25) rfl) rfl
theorem mse_X11_years : Cond.selects RX11 yX11_years yX11_years ∈ uTb := mT4 (List.mem_of_getElem? (i := 26) rfl) rfl
theorem mco_X11_years : Cond.code yX11_years cX11_years 4 (some .int) ∈ uTb := mT4 (List.mem_of_getElem? (i := 27) rfl) rfl
theorem mml_X11_166 : Cond.methodLink RX11 166 yX3_canKnow ∈ uTb := mT4 (List.mem_of_getElem? (i := 28) rfl) rfl
theorem mim_X3_canKnow : Cond.instanceMethod yX3_canKnow ∈ uTb := mT4 (List.mem_of_getElem? (i := 29) rfl) rfl
theorem mse_X3_canKnow : Cond.selects RX3 yX3_canKnow yX3_canKnow ∈ uTb := mT4 (List.mem_of_getElem? (i := 30) rfl) rfl
theorem mco_X3_canKnow : Cond.code yX3_canKnow cX3_canKnow 2 (some .boolean) ∈ uTb := mT4 (List.mem_of_getElem? (i := 31) rfl) rfl
theorem mml_X11_169 : Cond.methodLink RX11 169 yX3_draw ∈ uTb := mT4 (List.mem_of_getElem? (i := 32) rfl) rfl
theorem mim_X3_draw : Cond.instanceMethod yX3_draw ∈ uTb := mT4 (List.mem_of_getElem? (i := 33) rfl) rfl
theorem mse_X3_draw : Cond.selects RX3 yX3_draw yX3_draw ∈ uTb := mT4 (List.mem_of_getElem? (i := 34) rfl) rfl
theorem mco_X3_draw : Cond.code yX3_draw cX3_draw 4 (some .boolean) ∈ uTb := mT4 (List.mem_of_getElem? (i := 35) rfl) rfl
theorem mml_X3_45 : Cond.methodLink RX3 45 yX3_markStruck ∈ uTb := mT4 (List.mem_of_getElem? (i := 36) rfl) rfl
theorem mim_X3_markStruck : Cond.instanceMethod yX3_markStruck ∈ uTb := mT4 (List.mem_of_getElem? (i := 38) rfl) rfl
theorem mco_X3_markStruck : Cond.code yX3_markStruck cX3_markStruck 3 none ∈ uTb := mT4 (List.mem_of_getElem? (i := 39) rfl) rfl
theorem mml_X3_49 : Cond.methodLink RX3 49 yJ7_fill_53178 ∈ uTb := mT4 (List.mem_of_getElem? (i := 40) rfl) rfl
theorem mml_X3_55 : Cond.methodLink RX3 55 yX3_setBounds ∈ uTb := mT4 (List.mem_of_getElem? (i := 41) rfl) rfl
theorem mim_X3_setBounds : Cond.instanceMethod yX3_setBounds ∈ uTb := mT4 (List.mem_of_getElem? (i := 43) rfl) rfl
theorem mco_X3_setBounds : Cond.code yX3_setBounds cX3_setBounds 3 none ∈ uTb := mT4 (List.mem_of_getElem? (i := 44) rfl) rfl
theorem mml_X3_66 : Cond.methodLink RX3 66 yX3_begin ∈ uTb := mT4 (List.mem_of_getElem? (i := 45) rfl) rfl
theorem mst_X3_begin : Cond.static yX3_begin ∈ uTb := mT4 (List.mem_of_getElem? (i := 46) rfl) rfl
theorem mco_X3_begin : Cond.code yX3_begin cX3_begin 1 (some .int) ∈ uTb := mT4 (List.mem_of_getElem? (i := 47) rfl) rfl
theorem mml_X3_70 : Cond.methodLink RX3 70 yX3_notAfter ∈ uTb := mT4 (List.mem_of_getElem? (i := 48) rfl) rfl
theorem mim_X3_notAfter : Cond.instanceMethod yX3_notAfter ∈ uTb := mT4 (List.mem_of_getElem? (i := 50) rfl) rfl
theorem mco_X3_notAfter : Cond.code yX3_notAfter cX3_notAfter 3 none ∈ uTb := mT4 (List.mem_of_getElem? (i := 51) rfl) rfl
theorem mml_X3_86 : Cond.methodLink RX3 86 yJ9_min_7cf53 ∈ uTb := mT4 (List.mem_of_getElem? (i := 52) rfl) rfl
theorem mst_J9_min_7cf53 : Cond.static yJ9_min_7cf53 ∈ uTb := mT4 (List.mem_of_getElem? (i := 53) rfl) rfl
theorem mco_J9_min_7cf53 : Cond.code yJ9_min_7cf53 cJ9_min_7cf53 2 (some .int) ∈ uTb := mT4 (List.mem_of_getElem? (i := 54) rfl) rfl
theorem mml_X3_74 : Cond.methodLink RX3 74 yX3_end ∈ uTb := mT4 (List.mem_of_getElem? (i := 55) rfl) rfl
theorem mst_X3_end : Cond.static yX3_end ∈ uTb := mT4 (List.mem_of_getElem? (i := 56) rfl) rfl
theorem mco_X3_end : Cond.code yX3_end cX3_end 1 (some .int) ∈ uTb := mT4 (List.mem_of_getElem? (i := 57) rfl) rfl
theorem mml_X3_77 : Cond.methodLink RX3 77 yX3_notBefore ∈ uTb := mT4 (List.mem_of_getElem? (i := 58) rfl) rfl
theorem mim_X3_notBefore : Cond.instanceMethod yX3_notBefore ∈ uTb := mT4 (List.mem_of_getElem? (i := 60) rfl) rfl
theorem mco_X3_notBefore : Cond.code yX3_notBefore cX3_notBefore 3 none ∈ uTb := mT4 (List.mem_of_getElem? (i := 61) rfl) rfl
theorem mml_X3_80 : Cond.methodLink RX3 80 yJ9_max_7cf53 ∈ uTb := mT4 (List.mem_of_getElem? (i := 62) rfl) rfl
theorem mml_X3_58 : Cond.methodLink RX3 58 yX3_handOn ∈ uTb := mT4 (List.mem_of_getElem? (i := 63) rfl) rfl
theorem mim_X3_handOn : Cond.instanceMethod yX3_handOn ∈ uTb := mT4 (List.mem_of_getElem? (i := 65) rfl) rfl
theorem mco_X3_handOn : Cond.code yX3_handOn cX3_handOn 4 (some .boolean) ∈ uTb := mT4 (List.mem_of_getElem? (i := 66) rfl) rfl
theorem mml_X3_89 : Cond.methodLink RX3 89 yX3_inOrder ∈ uTb := mT4 (List.mem_of_getElem? (i := 67) rfl) rfl
theorem mim_X3_inOrder : Cond.instanceMethod yX3_inOrder ∈ uTb := mT4 (List.mem_of_getElem? (i := 69) rfl) rfl
theorem mco_X3_inOrder : Cond.code yX3_inOrder cX3_inOrder 4 (some .boolean) ∈ uTb := mT4 (List.mem_of_getElem? (i := 70) rfl) rfl
theorem mml_X3_62 : Cond.methodLink RX3 62 yX3_boundsMeet ∈ uTb := mT4 (List.mem_of_getElem? (i := 71) rfl) rfl
theorem mim_X3_boundsMeet : Cond.instanceMethod yX3_boundsMeet ∈ uTb := mT4 (List.mem_of_getElem? (i := 73) rfl) rfl
theorem mco_X3_boundsMeet : Cond.code yX3_boundsMeet cX3_boundsMeet 2 (some .boolean) ∈ uTb := mT4 (List.mem_of_getElem? (i := 74) rfl) rfl
theorem mml_X11_172 : Cond.methodLink RX11 172 yX3_edge ∈ uTb := mT4 (List.mem_of_getElem? (i := 75) rfl) rfl
theorem mim_X3_edge : Cond.instanceMethod yX3_edge ∈ uTb := mT4 (List.mem_of_getElem? (i := 76) rfl) rfl
theorem mse_X3_edge : Cond.selects RX3 yX3_edge yX3_edge ∈ uTb := mT4 (List.mem_of_getElem? (i := 77) rfl) rfl
theorem mco_X3_edge : Cond.code yX3_edge cX3_edge 4 (some .int) ∈ uTb := mT4 (List.mem_of_getElem? (i := 78) rfl) rfl
theorem mml_L_72 : Cond.methodLink RL 72 yX11_quarrel ∈ uTb := mT4 (List.mem_of_getElem? (i := 79) rfl) rfl
theorem mim_X11_quarrel : Cond.instanceMethod yX11_quarrel ∈ uTb := mT4 (List.mem_of_getElem? (i := 80) rfl) rfl
theorem mse_X11_quarrel : Cond.selects RX11 yX11_quarrel yX11_quarrel ∈ uTb := mT4 (List.mem_of_getElem? (i := 81) rfl) rfl
theorem mco_X11_quarrel : Cond.code yX11_quarrel cX11_quarrel 1 (some .int) ∈ uTb := mT4 (List.mem_of_getElem? (i := 82) rfl) rfl
theorem mml_X11_175 : Cond.methodLink RX11 175 yX3_firstQuarrel ∈ uTb := mT4 (List.mem_of_getElem? (i := 83) rfl) rfl
theorem mim_X3_firstQuarrel : Cond.instanceMethod yX3_firstQuarrel ∈ uTb := mT4 (List.mem_of_getElem? (i := 84) rfl) rfl
theorem mse_X3_firstQuarrel : Cond.selects RX3 yX3_firstQuarrel yX3_firstQuarrel ∈ uTb := mT4 (List.mem_of_getElem? (i := 85) rfl) rfl
theorem mco_X3_firstQuarrel : Cond.code yX3_firstQuarrel cX3_firstQuarrel 2 (some .int) ∈ uTb := mT4 (List.mem_of_getElem? (i := 86) rfl) rfl
theorem mml_X3_93 : Cond.methodLink RX3 93 yX3_draw ∈ uTb := mT4 (List.mem_of_getElem? (i := 87) rfl) rfl
theorem mml_L_77 : Cond.methodLink RL 77 yX11_stood ∈ uTb := mT4 (List.mem_of_getElem? (i := 88) rfl) rfl
theorem mim_X11_stood : Cond.instanceMethod yX11_stood ∈ uTb := mT4 (List.mem_of_getElem? (i := 89) rfl) rfl
theorem mse_X11_stood : Cond.selects RX11 yX11_stood yX11_stood ∈ uTb := mT4 (List.mem_of_getElem? (i := 90) rfl) rfl
theorem mco_X11_stood : Cond.code yX11_stood cX11_stood 4 (some .int) ∈ uTb := mT4 (List.mem_of_getElem? (i := 91) rfl) rfl
theorem mml_X11_179 : Cond.methodLink RX11 179 yX3_standing ∈ uTb := mT4 (List.mem_of_getElem? (i := 92) rfl) rfl
theorem mim_X3_standing : Cond.instanceMethod yX3_standing ∈ uTb := mT4 (List.mem_of_getElem? (i := 93) rfl) rfl
theorem mse_X3_standing : Cond.selects RX3 yX3_standing yX3_standing ∈ uTb := mT4 (List.mem_of_getElem? (i := 94) rfl) rfl
theorem mco_X3_standing : Cond.code yX3_standing cX3_standing 3 (some .int) ∈ uTb := mT4 (List.mem_of_getElem? (i := 95) rfl) rfl
theorem mml_L_81 : Cond.methodLink RL 81 yX11_groups ∈ uTb := mT4 (List.mem_of_getElem? (i := 96) rfl) rfl
theorem mim_X11_groups : Cond.instanceMethod yX11_groups ∈ uTb := mT4 (List.mem_of_getElem? (i := 97) rfl) rfl
theorem mse_X11_groups : Cond.selects RX11 yX11_groups yX11_groups ∈ uTb := mT4 (List.mem_of_getElem? (i := 98) rfl) rfl
theorem mco_X11_groups : Cond.code yX11_groups cX11_groups 5 (some .int) ∈ uTb := mT4 (List.mem_of_getElem? (i := 99) rfl) rfl
theorem mml_X11_182 : Cond.methodLink RX11 182 yX11_isLine ∈ uTb := mT4 (List.mem_of_getElem? (i := 100) rfl) rfl
theorem mst_X11_isLine : Cond.static yX11_isLine ∈ uTb := mT4 (List.mem_of_getElem? (i := 101) rfl) rfl
theorem mco_X11_isLine : Cond.code yX11_isLine cX11_isLine 4 (some .boolean) ∈ uTb := mT4 (List.mem_of_getElem? (i := 102) rfl) rfl
theorem mml_X11_185 : Cond.methodLink RX11 185 yX1_draw ∈ uTb := mT4 (List.mem_of_getElem? (i := 103) rfl) rfl
theorem mim_X1_draw : Cond.instanceMethod yX1_draw ∈ uTb := mT4 (List.mem_of_getElem? (i := 104) rfl) rfl
theorem mse_X1_draw : Cond.selects RX1 yX1_draw yX1_draw ∈ uTb := mT4 (List.mem_of_getElem? (i := 105) rfl) rfl
theorem mco_X1_draw : Cond.code yX1_draw cX1_draw 9 none ∈ uTb := mT4 (List.mem_of_getElem? (i := 106) rfl) rfl
theorem mml_X1_42 : Cond.methodLink RX1 42 yX3_draw ∈ uTb := mT4 (List.mem_of_getElem? (i := 107) rfl) rfl
theorem mml_X1_46 : Cond.methodLink RX1 46 yX1_standingAs ∈ uTb := mT4 (List.mem_of_getElem? (i := 108) rfl) rfl
theorem mim_X1_standingAs : Cond.instanceMethod yX1_standingAs ∈ uTb := mT4 (List.mem_of_getElem? (i := 110) rfl) rfl
theorem mco_X1_standingAs : Cond.code yX1_standingAs cX1_standingAs 6 (some .int) ∈ uTb := mT4 (List.mem_of_getElem? (i := 111) rfl) rfl
theorem mml_X1_72 : Cond.methodLink RX1 72 yX3_standing ∈ uTb := mT4 (List.mem_of_getElem? (i := 112) rfl) rfl
theorem mml_X1_50 : Cond.methodLink RX1 50 yJ7_fill_53178 ∈ uTb := mT4 (List.mem_of_getElem? (i := 113) rfl) rfl
theorem mml_X1_59 : Cond.methodLink RX1 59 yX8_linkOf ∈ uTb := mT4 (List.mem_of_getElem? (i := 114) rfl) rfl
theorem mim_X8_linkOf : Cond.instanceMethod yX8_linkOf ∈ uTb := mT4 (List.mem_of_getElem? (i := 115) rfl) rfl
theorem mse_X8_linkOf : Cond.selects RX8 yX8_linkOf yX8_linkOf ∈ uTb := mT4 (List.mem_of_getElem? (i := 116) rfl) rfl
theorem mco_X8_linkOf : Cond.code yX8_linkOf cX8_linkOf 6 (some .int) ∈ uTb := mT4 (List.mem_of_getElem? (i := 117) rfl) rfl
theorem mml_X8_82 : Cond.methodLink RX8 82 yX8_levelOf ∈ uTb := mT4 (List.mem_of_getElem? (i := 118) rfl) rfl
theorem mml_X8_85 : Cond.methodLink RX8 85 yJ9_min_7cf53 ∈ uTb := mT4 (List.mem_of_getElem? (i := 119) rfl) rfl
theorem mml_X1_65 : Cond.methodLink RX1 65 yX1_tie ∈ uTb := mT4 (List.mem_of_getElem? (i := 120) rfl) rfl
theorem mim_X1_tie : Cond.instanceMethod yX1_tie ∈ uTb := mT4 (List.mem_of_getElem? (i := 122) rfl) rfl
theorem mco_X1_tie : Cond.code yX1_tie cX1_tie 5 none ∈ uTb := mT4 (List.mem_of_getElem? (i := 123) rfl) rfl
theorem mml_X11_191 : Cond.methodLink RX11 191 yX1_groupsAmong ∈ uTb := mT4 (List.mem_of_getElem? (i := 124) rfl) rfl
theorem mim_X1_groupsAmong : Cond.instanceMethod yX1_groupsAmong ∈ uTb := mT4 (List.mem_of_getElem? (i := 125) rfl) rfl
theorem mse_X1_groupsAmong : Cond.selects RX1 yX1_groupsAmong yX1_groupsAmong ∈ uTb := mT4 (List.mem_of_getElem? (i := 126) rfl) rfl
theorem mco_X1_groupsAmong : Cond.code yX1_groupsAmong cX1_groupsAmong 5 (some .int) ∈ uTb := mT4 (List.mem_of_getElem? (i := 127) rfl) rfl
theorem mml_X1_82 : Cond.methodLink RX1 82 yX1_reach ∈ uTb := mT4 (List.mem_of_getElem? (i := 128) rfl) rfl
theorem mim_X1_reach : Cond.instanceMethod yX1_reach ∈ uTb := mT4 (List.mem_of_getElem? (i := 130) rfl) rfl
theorem mco_X1_reach : Cond.code yX1_reach cX1_reach 8 (some .int) ∈ uTb := mT4 (List.mem_of_getElem? (i := 131) rfl) rfl
theorem mml_X1_76 : Cond.methodLink RX1 76 yJ6_numberOfTrailingZeros_0f7a4 ∈ uTb := mT4 (List.mem_of_getElem? (i := 132) rfl) rfl
theorem mst_J6_numberOfTrailingZeros_0f7a4 : Cond.static yJ6_numberOfTrailingZeros_0f7a4 ∈ uTb := mT4 (List.mem_of_getElem? (i := 133) rfl) rfl
theorem mco_J6_numberOfTrailingZeros_0f7a4 : Cond.code yJ6_numberOfTrailingZeros_0f7a4 cJ6_numberOfTrailingZeros_0f7a4 2 (some .int) ∈ uTb := mT4 (List.mem_of_getElem? (i := 134) rfl) rfl
theorem mct_J6_264 : Cond.constant RJ6 264 (65536) ∈ uTb := mT4 (List.mem_of_getElem? (i := 135) rfl) rfl
theorem mml_L_85 : Cond.methodLink RL 85 yX11_cuts ∈ uTb := mT4 (List.mem_of_getElem? (i := 136) rfl) rfl
theorem mim_X11_cuts : Cond.instanceMethod yX11_cuts ∈ uTb := mT4 (List.mem_of_getElem? (i := 137) rfl) rfl
theorem mse_X11_cuts : Cond.selects RX11 yX11_cuts yX11_cuts ∈ uTb := mT4 (List.mem_of_getElem? (i := 138) rfl) rfl
theorem mco_X11_cuts : Cond.code yX11_cuts cX11_cuts 5 (some .int) ∈ uTb := mT4 (List.mem_of_getElem? (i := 139) rfl) rfl
theorem mml_X11_195 : Cond.methodLink RX11 195 yX1_cutBits ∈ uTb := mT4 (List.mem_of_getElem? (i := 140) rfl) rfl
theorem mim_X1_cutBits : Cond.instanceMethod yX1_cutBits ∈ uTb := mT4 (List.mem_of_getElem? (i := 141) rfl) rfl
theorem mse_X1_cutBits : Cond.selects RX1 yX1_cutBits yX1_cutBits ∈ uTb := mT4 (List.mem_of_getElem? (i := 142) rfl) rfl
theorem mco_X1_cutBits : Cond.code yX1_cutBits cX1_cutBits 4 (some .int) ∈ uTb := mT4 (List.mem_of_getElem? (i := 143) rfl) rfl
theorem mml_X1_85 : Cond.methodLink RX1 85 yX1_groupsAmong ∈ uTb := mT4 (List.mem_of_getElem? (i := 144) rfl) rfl
theorem mml_L_89 : Cond.methodLink RL 89 yX11_join ∈ uTb := mT4 (List.mem_of_getElem? (i := 145) rfl) rfl
theorem mim_X11_join : Cond.instanceMethod yX11_join ∈ uTb := mT4 (List.mem_of_getElem? (i := 146) rfl) rfl
theorem mse_X11_join : Cond.selects RX11 yX11_join yX11_join ∈ uTb := mT4 (List.mem_of_getElem? (i := 147) rfl) rfl
theorem mco_X11_join : Cond.code yX11_join cX11_join 5 (some .int) ∈ uTb := mT4 (List.mem_of_getElem? (i := 148) rfl) rfl
theorem mml_X11_198 : Cond.methodLink RX11 198 yX6_find ∈ uTb := mT4 (List.mem_of_getElem? (i := 149) rfl) rfl
theorem mim_X6_find : Cond.instanceMethod yX6_find ∈ uTb := mT4 (List.mem_of_getElem? (i := 150) rfl) rfl
theorem mse_X6_find : Cond.selects RX6 yX6_find yX6_find ∈ uTb := mT4 (List.mem_of_getElem? (i := 151) rfl) rfl
theorem mco_X6_find : Cond.code yX6_find cX6_find 2 (some .int) ∈ uTb := mT4 (List.mem_of_getElem? (i := 152) rfl) rfl
theorem mml_X6_29 : Cond.methodLink RX6 29 yX6_clear ∈ uTb := mT4 (List.mem_of_getElem? (i := 153) rfl) rfl
theorem mml_X6_37 : Cond.methodLink RX6 37 yX1_isOneWith ∈ uTb := mT4 (List.mem_of_getElem? (i := 154) rfl) rfl
theorem mim_X1_isOneWith : Cond.instanceMethod yX1_isOneWith ∈ uTb := mT4 (List.mem_of_getElem? (i := 155) rfl) rfl
theorem mse_X1_isOneWith : Cond.selects RX1 yX1_isOneWith yX1_isOneWith ∈ uTb := mT4 (List.mem_of_getElem? (i := 156) rfl) rfl
theorem mco_X1_isOneWith : Cond.code yX1_isOneWith cX1_isOneWith 3 (some .boolean) ∈ uTb := mT4 (List.mem_of_getElem? (i := 157) rfl) rfl
theorem mml_X6_41 : Cond.methodLink RX6 41 yX6_gather ∈ uTb := mT4 (List.mem_of_getElem? (i := 158) rfl) rfl
theorem mim_X6_gather : Cond.instanceMethod yX6_gather ∈ uTb := mT4 (List.mem_of_getElem? (i := 160) rfl) rfl
theorem mco_X6_gather : Cond.code yX6_gather cX6_gather 6 none ∈ uTb := mT4 (List.mem_of_getElem? (i := 161) rfl) rfl
theorem mml_X6_48 : Cond.methodLink RX6 48 yJ6_bitCount_0f7a4 ∈ uTb := mT4 (List.mem_of_getElem? (i := 162) rfl) rfl
theorem mst_J6_bitCount_0f7a4 : Cond.static yJ6_bitCount_0f7a4 ∈ uTb := mT4 (List.mem_of_getElem? (i := 163) rfl) rfl
theorem mco_J6_bitCount_0f7a4 : Cond.code yJ6_bitCount_0f7a4 cJ6_bitCount_0f7a4 1 (some .int) ∈ uTb := mT4 (List.mem_of_getElem? (i := 164) rfl) rfl
theorem mct_J6_265 : Cond.constant RJ6 265 (1431655765) ∈ uTb := mT4 (List.mem_of_getElem? (i := 165) rfl) rfl
theorem mct_J6_266 : Cond.constant RJ6 266 (858993459) ∈ uTb := mT4 (List.mem_of_getElem? (i := 166) rfl) rfl
theorem mct_J6_267 : Cond.constant RJ6 267 (252645135) ∈ uTb := mT4 (List.mem_of_getElem? (i := 167) rfl) rfl
theorem mml_X6_54 : Cond.methodLink RX6 54 yX6_take ∈ uTb := mT4 (List.mem_of_getElem? (i := 168) rfl) rfl
theorem mim_X6_take : Cond.instanceMethod yX6_take ∈ uTb := mT4 (List.mem_of_getElem? (i := 170) rfl) rfl
theorem mco_X6_take : Cond.code yX6_take cX6_take 3 none ∈ uTb := mT4 (List.mem_of_getElem? (i := 171) rfl) rfl
theorem mml_X6_45 : Cond.methodLink RX6 45 yX6_countShares ∈ uTb := mT4 (List.mem_of_getElem? (i := 172) rfl) rfl
theorem mim_X6_countShares : Cond.instanceMethod yX6_countShares ∈ uTb := mT4 (List.mem_of_getElem? (i := 174) rfl) rfl
theorem mco_X6_countShares : Cond.code yX6_countShares cX6_countShares 3 none ∈ uTb := mT4 (List.mem_of_getElem? (i := 175) rfl) rfl
theorem mml_X6_58 : Cond.methodLink RX6 58 yJ7_fill_53178 ∈ uTb := mT4 (List.mem_of_getElem? (i := 176) rfl) rfl
theorem mml_L_93 : Cond.methodLink RL 93 yX11_joined ∈ uTb := mT4 (List.mem_of_getElem? (i := 177) rfl) rfl
theorem mim_X11_joined : Cond.instanceMethod yX11_joined ∈ uTb := mT4 (List.mem_of_getElem? (i := 178) rfl) rfl
theorem mse_X11_joined : Cond.selects RX11 yX11_joined yX11_joined ∈ uTb := mT4 (List.mem_of_getElem? (i := 179) rfl) rfl
theorem mco_X11_joined : Cond.code yX11_joined cX11_joined 3 (some .int) ∈ uTb := mT4 (List.mem_of_getElem? (i := 180) rfl) rfl
theorem mml_L_97 : Cond.methodLink RL 97 yX11_dig ∈ uTb := mT4 (List.mem_of_getElem? (i := 181) rfl) rfl
theorem mim_X11_dig : Cond.instanceMethod yX11_dig ∈ uTb := mT4 (List.mem_of_getElem? (i := 182) rfl) rfl
theorem mse_X11_dig : Cond.selects RX11 yX11_dig yX11_dig ∈ uTb := mT4 (List.mem_of_getElem? (i := 183) rfl) rfl
theorem mco_X11_dig : Cond.code yX11_dig cX11_dig 1 (some .int) ∈ uTb := mT4 (List.mem_of_getElem? (i := 184) rfl) rfl
theorem mml_X11_213 : Cond.methodLink RX11 213 yX6_nextToDig ∈ uTb := mT4 (List.mem_of_getElem? (i := 185) rfl) rfl
theorem mim_X6_nextToDig : Cond.instanceMethod yX6_nextToDig ∈ uTb := mT4 (List.mem_of_getElem? (i := 186) rfl) rfl
theorem mse_X6_nextToDig : Cond.selects RX6 yX6_nextToDig yX6_nextToDig ∈ uTb := mT4 (List.mem_of_getElem? (i := 187) rfl) rfl
theorem mco_X6_nextToDig : Cond.code yX6_nextToDig cX6_nextToDig 5 (some .int) ∈ uTb := mT4 (List.mem_of_getElem? (i := 188) rfl) rfl
theorem mml_X6_64 : Cond.methodLink RX6 64 yJ9_max_7cf53 ∈ uTb := mT4 (List.mem_of_getElem? (i := 189) rfl) rfl
theorem mml_L_101 : Cond.methodLink RL 101 yX11_dug ∈ uTb := mT4 (List.mem_of_getElem? (i := 190) rfl) rfl
theorem mim_X11_dug : Cond.instanceMethod yX11_dug ∈ uTb := mT4 (List.mem_of_getElem? (i := 191) rfl) rfl
theorem mse_X11_dug : Cond.selects RX11 yX11_dug yX11_dug ∈ uTb := mT4 (List.mem_of_getElem? (i := 192) rfl) rfl
theorem mco_X11_dug : Cond.code yX11_dug cX11_dug 3 (some .boolean) ∈ uTb := mT4 (List.mem_of_getElem? (i := 193) rfl) rfl
theorem mml_L_106 : Cond.methodLink RL 106 yX11_feed ∈ uTb := mT4 (List.mem_of_getElem? (i := 194) rfl) rfl
theorem mim_X11_feed : Cond.instanceMethod yX11_feed ∈ uTb := mT4 (List.mem_of_getElem? (i := 195) rfl) rfl
theorem mse_X11_feed : Cond.selects RX11 yX11_feed yX11_feed ∈ uTb := mT4 (List.mem_of_getElem? (i := 196) rfl) rfl
theorem mco_X11_feed : Cond.code yX11_feed cX11_feed 6 (some .int) ∈ uTb := mT4 (List.mem_of_getElem? (i := 197) rfl) rfl
theorem mml_X11_219 : Cond.methodLink RX11 219 yX10_hasRoom ∈ uTb := mT4 (List.mem_of_getElem? (i := 198) rfl) rfl
theorem mim_X10_hasRoom : Cond.instanceMethod yX10_hasRoom ∈ uTb := mT4 (List.mem_of_getElem? (i := 199) rfl) rfl
theorem mse_X10_hasRoom : Cond.selects RX10 yX10_hasRoom yX10_hasRoom ∈ uTb := mT4 (List.mem_of_getElem? (i := 200) rfl) rfl
theorem mco_X10_hasRoom : Cond.code yX10_hasRoom cX10_hasRoom 1 (some .boolean) ∈ uTb := mT4 (List.mem_of_getElem? (i := 201) rfl) rfl
theorem mml_X11_223 : Cond.methodLink RX11 223 yX10_append ∈ uTb := mT4 (List.mem_of_getElem? (i := 202) rfl) rfl
theorem mim_X10_append : Cond.instanceMethod yX10_append ∈ uTb := mT4 (List.mem_of_getElem? (i := 203) rfl) rfl
theorem mse_X10_append : Cond.selects RX10 yX10_append yX10_append ∈ uTb := mT4 (List.mem_of_getElem? (i := 204) rfl) rfl
theorem mco_X10_append : Cond.code yX10_append cX10_append 3 none ∈ uTb := mT4 (List.mem_of_getElem? (i := 205) rfl) rfl
theorem mml_L_111 : Cond.methodLink RL 111 yX11_rules ∈ uTb := mT4 (List.mem_of_getElem? (i := 206) rfl) rfl
theorem mim_X11_rules : Cond.instanceMethod yX11_rules ∈ uTb := mT4 (List.mem_of_getElem? (i := 207) rfl) rfl
theorem mse_X11_rules : Cond.selects RX11 yX11_rules yX11_rules ∈ uTb := mT4 (List.mem_of_getElem? (i := 208) rfl) rfl
theorem mco_X11_rules : Cond.code yX11_rules cX11_rules 3 (some .int) ∈ uTb := mT4 (List.mem_of_getElem? (i := 209) rfl) rfl
theorem mml_X11_228 : Cond.methodLink RX11 228 yX5_read ∈ uTb := mT4 (List.mem_of_getElem? (i := 210) rfl) rfl
theorem mim_X5_read : Cond.instanceMethod yX5_read ∈ uTb := mT4 (List.mem_of_getElem? (i := 211) rfl) rfl
theorem mse_X5_read : Cond.selects RX5 yX5_read yX5_read ∈ uTb := mT4 (List.mem_of_getElem? (i := 212) rfl) rfl
theorem mco_X5_read : Cond.code yX5_read cX5_read 5 (some .boolean) ∈ uTb := mT4 (List.mem_of_getElem? (i := 213) rfl) rfl
theorem mml_X5_50 : Cond.methodLink RX5 50 yX5_begin ∈ uTb := mT4 (List.mem_of_getElem? (i := 214) rfl) rfl
theorem mim_X5_begin : Cond.instanceMethod yX5_begin ∈ uTb := mT4 (List.mem_of_getElem? (i := 216) rfl) rfl
theorem mco_X5_begin : Cond.code yX5_begin cX5_begin 2 none ∈ uTb := mT4 (List.mem_of_getElem? (i := 217) rfl) rfl
theorem mml_X5_104 : Cond.methodLink RX5 104 yX7_clear ∈ uTb := mT4 (List.mem_of_getElem? (i := 218) rfl) rfl
theorem mim_X7_clear : Cond.instanceMethod yX7_clear ∈ uTb := mT4 (List.mem_of_getElem? (i := 219) rfl) rfl
theorem mse_X7_clear : Cond.selects RX7 yX7_clear yX7_clear ∈ uTb := mT4 (List.mem_of_getElem? (i := 220) rfl) rfl
theorem mco_X7_clear : Cond.code yX7_clear cX7_clear 2 none ∈ uTb := mT4 (List.mem_of_getElem? (i := 221) rfl) rfl
theorem mml_X5_107 : Cond.methodLink RX5 107 yX10_start ∈ uTb := mT4 (List.mem_of_getElem? (i := 222) rfl) rfl
theorem mim_X10_start : Cond.instanceMethod yX10_start ∈ uTb := mT4 (List.mem_of_getElem? (i := 223) rfl) rfl
theorem mse_X10_start : Cond.selects RX10 yX10_start yX10_start ∈ uTb := mT4 (List.mem_of_getElem? (i := 224) rfl) rfl
theorem mco_X10_start : Cond.code yX10_start cX10_start 2 none ∈ uTb := mT4 (List.mem_of_getElem? (i := 225) rfl) rfl
theorem mml_X10_62 : Cond.methodLink RX10 62 yX10_advance ∈ uTb := mT4 (List.mem_of_getElem? (i := 226) rfl) rfl
theorem mim_X10_advance : Cond.instanceMethod yX10_advance ∈ uTb := mT4 (List.mem_of_getElem? (i := 227) rfl) rfl
theorem mse_X10_advance : Cond.selects RX10 yX10_advance yX10_advance ∈ uTb := mT4 (List.mem_of_getElem? (i := 228) rfl) rfl
theorem mco_X10_advance : Cond.code yX10_advance cX10_advance 1 none ∈ uTb := mT4 (List.mem_of_getElem? (i := 229) rfl) rfl
theorem mml_X10_65 : Cond.methodLink RX10 65 yX10_isLetter ∈ uTb := mT4 (List.mem_of_getElem? (i := 230) rfl) rfl
theorem mst_X10_isLetter : Cond.static yX10_isLetter ∈ uTb := mT4 (List.mem_of_getElem? (i := 231) rfl) rfl
theorem mco_X10_isLetter : Cond.code yX10_isLetter cX10_isLetter 1 (some .boolean) ∈ uTb := mT4 (List.mem_of_getElem? (i := 232) rfl) rfl
theorem mml_X10_69 : Cond.methodLink RX10 69 yX10_takeName ∈ uTb := mT4 (List.mem_of_getElem? (i := 233) rfl) rfl
theorem mim_X10_takeName : Cond.instanceMethod yX10_takeName ∈ uTb := mT4 (List.mem_of_getElem? (i := 235) rfl) rfl
theorem mco_X10_takeName : Cond.code yX10_takeName cX10_takeName 1 none ∈ uTb := mT4 (List.mem_of_getElem? (i := 236) rfl) rfl
theorem mml_X10_81 : Cond.methodLink RX10 81 yX10_keyOf ∈ uTb := mT4 (List.mem_of_getElem? (i := 237) rfl) rfl
theorem mim_X10_keyOf : Cond.instanceMethod yX10_keyOf ∈ uTb := mT4 (List.mem_of_getElem? (i := 239) rfl) rfl
theorem mco_X10_keyOf : Cond.code yX10_keyOf cX10_keyOf 4 (some .int) ∈ uTb := mT5 (List.mem_of_getElem? (i := 0) rfl) rfl
theorem mml_X10_72 : Cond.methodLink RX10 72 yX10_isDigit ∈ uTb := mT5 (List.mem_of_getElem? (i := 1) rfl) rfl
theorem mst_X10_isDigit : Cond.static yX10_isDigit ∈ uTb := mT5 (List.mem_of_getElem? (i := 2) rfl) rfl
theorem mco_X10_isDigit : Cond.code yX10_isDigit cX10_isDigit 1 (some .boolean) ∈ uTb := mT5 (List.mem_of_getElem? (i := 3) rfl) rfl
theorem mml_X10_75 : Cond.methodLink RX10 75 yX10_takeNumber ∈ uTb := mT5 (List.mem_of_getElem? (i := 4) rfl) rfl
theorem mim_X10_takeNumber : Cond.instanceMethod yX10_takeNumber ∈ uTb := mT5 (List.mem_of_getElem? (i := 6) rfl) rfl
theorem mco_X10_takeNumber : Cond.code yX10_takeNumber cX10_takeNumber 1 none ∈ uTb := mT5 (List.mem_of_getElem? (i := 7) rfl) rfl
theorem mml_X10_85 : Cond.methodLink RX10 85 yJ9_min_7cf53 ∈ uTb := mT5 (List.mem_of_getElem? (i := 8) rfl) rfl
theorem mml_X10_78 : Cond.methodLink RX10 78 yX10_takeMark ∈ uTb := mT5 (List.mem_of_getElem? (i := 9) rfl) rfl
theorem mim_X10_takeMark : Cond.instanceMethod yX10_takeMark ∈ uTb := mT5 (List.mem_of_getElem? (i := 11) rfl) rfl
theorem mco_X10_takeMark : Cond.code yX10_takeMark cX10_takeMark 2 none ∈ uTb := mT5 (List.mem_of_getElem? (i := 12) rfl) rfl
theorem mml_X5_68 : Cond.methodLink RX5 68 yX5_readWord ∈ uTb := mT5 (List.mem_of_getElem? (i := 13) rfl) rfl
theorem mim_X5_readWord : Cond.instanceMethod yX5_readWord ∈ uTb := mT5 (List.mem_of_getElem? (i := 15) rfl) rfl
theorem mco_X5_readWord : Cond.code yX5_readWord cX5_readWord 6 (some .boolean) ∈ uTb := mT5 (List.mem_of_getElem? (i := 16) rfl) rfl
theorem mml_X5_110 : Cond.methodLink RX5 110 yX10_advance ∈ uTb := mT5 (List.mem_of_getElem? (i := 17) rfl) rfl
theorem mml_X5_116 : Cond.methodLink RX5 116 yX5_atName ∈ uTb := mT5 (List.mem_of_getElem? (i := 18) rfl) rfl
theorem mim_X5_atName : Cond.instanceMethod yX5_atName ∈ uTb := mT5 (List.mem_of_getElem? (i := 20) rfl) rfl
theorem mco_X5_atName : Cond.code yX5_atName cX5_atName 1 (some .boolean) ∈ uTb := mT5 (List.mem_of_getElem? (i := 21) rfl) rfl
theorem mml_X5_72 : Cond.methodLink RX5 72 yX5_fail ∈ uTb := mT5 (List.mem_of_getElem? (i := 22) rfl) rfl
theorem mim_X5_fail : Cond.instanceMethod yX5_fail ∈ uTb := mT5 (List.mem_of_getElem? (i := 24) rfl) rfl
theorem mco_X5_fail : Cond.code yX5_fail cX5_fail 3 (some .boolean) ∈ uTb := mT5 (List.mem_of_getElem? (i := 25) rfl) rfl
theorem mml_X5_123 : Cond.methodLink RX5 123 yX7_wordNamed ∈ uTb := mT5 (List.mem_of_getElem? (i := 26) rfl) rfl
theorem mim_X7_wordNamed : Cond.instanceMethod yX7_wordNamed ∈ uTb := mT5 (List.mem_of_getElem? (i := 27) rfl) rfl
theorem mse_X7_wordNamed : Cond.selects RX7 yX7_wordNamed yX7_wordNamed ∈ uTb := mT5 (List.mem_of_getElem? (i := 28) rfl) rfl
theorem mco_X7_wordNamed : Cond.code yX7_wordNamed cX7_wordNamed 4 (some .int) ∈ uTb := mT5 (List.mem_of_getElem? (i := 29) rfl) rfl
theorem mml_X5_127 : Cond.methodLink RX5 127 yX5_atNumber ∈ uTb := mT5 (List.mem_of_getElem? (i := 30) rfl) rfl
theorem mim_X5_atNumber : Cond.instanceMethod yX5_atNumber ∈ uTb := mT5 (List.mem_of_getElem? (i := 32) rfl) rfl
theorem mco_X5_atNumber : Cond.code yX5_atNumber cX5_atNumber 3 (some .boolean) ∈ uTb := mT5 (List.mem_of_getElem? (i := 33) rfl) rfl
theorem mml_X5_130 : Cond.methodLink RX5 130 yX7_wordOfRow ∈ uTb := mT5 (List.mem_of_getElem? (i := 34) rfl) rfl
theorem mim_X7_wordOfRow : Cond.instanceMethod yX7_wordOfRow ∈ uTb := mT5 (List.mem_of_getElem? (i := 35) rfl) rfl
theorem mse_X7_wordOfRow : Cond.selects RX7 yX7_wordOfRow yX7_wordOfRow ∈ uTb := mT5 (List.mem_of_getElem? (i := 36) rfl) rfl
theorem mco_X7_wordOfRow : Cond.code yX7_wordOfRow cX7_wordOfRow 3 (some .int) ∈ uTb := mT5 (List.mem_of_getElem? (i := 37) rfl) rfl
theorem mml_X5_134 : Cond.methodLink RX5 134 yX7_addWord ∈ uTb := mT5 (List.mem_of_getElem? (i := 38) rfl) rfl
theorem mim_X7_addWord : Cond.instanceMethod yX7_addWord ∈ uTb := mT5 (List.mem_of_getElem? (i := 39) rfl) rfl
theorem mse_X7_addWord : Cond.selects RX7 yX7_addWord yX7_addWord ∈ uTb := mT5 (List.mem_of_getElem? (i := 40) rfl) rfl
theorem mco_X7_addWord : Cond.code yX7_addWord cX7_addWord 5 none ∈ uTb := mT5 (List.mem_of_getElem? (i := 41) rfl) rfl
theorem mml_X5_79 : Cond.methodLink RX5 79 yX5_readLike ∈ uTb := mT5 (List.mem_of_getElem? (i := 42) rfl) rfl
theorem mim_X5_readLike : Cond.instanceMethod yX5_readLike ∈ uTb := mT5 (List.mem_of_getElem? (i := 44) rfl) rfl
theorem mco_X5_readLike : Cond.code yX5_readLike cX5_readLike 2 (some .boolean) ∈ uTb := mT5 (List.mem_of_getElem? (i := 45) rfl) rfl
theorem mml_X5_138 : Cond.methodLink RX5 138 yX7_addLike ∈ uTb := mT5 (List.mem_of_getElem? (i := 46) rfl) rfl
theorem mim_X7_addLike : Cond.instanceMethod yX7_addLike ∈ uTb := mT5 (List.mem_of_getElem? (i := 47) rfl) rfl
theorem mse_X7_addLike : Cond.selects RX7 yX7_addLike yX7_addLike ∈ uTb := mT5 (List.mem_of_getElem? (i := 48) rfl) rfl
theorem mco_X7_addLike : Cond.code yX7_addLike cX7_addLike 6 none ∈ uTb := mT5 (List.mem_of_getElem? (i := 49) rfl) rfl
theorem mml_X7_63 : Cond.methodLink RX7 63 yJ9_min_7cf53 ∈ uTb := mT5 (List.mem_of_getElem? (i := 50) rfl) rfl
theorem mml_X7_69 : Cond.methodLink RX7 69 yJ9_max_7cf53 ∈ uTb := mT5 (List.mem_of_getElem? (i := 51) rfl) rfl
theorem mml_X5_82 : Cond.methodLink RX5 82 yX5_readMinutes ∈ uTb := mT5 (List.mem_of_getElem? (i := 52) rfl) rfl
theorem mim_X5_readMinutes : Cond.instanceMethod yX5_readMinutes ∈ uTb := mT5 (List.mem_of_getElem? (i := 54) rfl) rfl
theorem mco_X5_readMinutes : Cond.code yX5_readMinutes cX5_readMinutes 1 (some .boolean) ∈ uTb := mT5 (List.mem_of_getElem? (i := 55) rfl) rfl
theorem mml_X5_85 : Cond.methodLink RX5 85 yX5_readLook ∈ uTb := mT5 (List.mem_of_getElem? (i := 56) rfl) rfl
theorem mim_X5_readLook : Cond.instanceMethod yX5_readLook ∈ uTb := mT5 (List.mem_of_getElem? (i := 58) rfl) rfl
theorem mco_X5_readLook : Cond.code yX5_readLook cX5_readLook 1 (some .boolean) ∈ uTb := mT5 (List.mem_of_getElem? (i := 59) rfl) rfl
theorem mml_X5_91 : Cond.methodLink RX5 91 yX5_readOrder ∈ uTb := mT5 (List.mem_of_getElem? (i := 60) rfl) rfl
theorem mim_X5_readOrder : Cond.instanceMethod yX5_readOrder ∈ uTb := mT5 (List.mem_of_getElem? (i := 62) rfl) rfl
theorem mco_X5_readOrder : Cond.code yX5_readOrder cX5_readOrder 3 (some .boolean) ∈ uTb := mT5 (List.mem_of_getElem? (i := 63) rfl) rfl
theorem mml_X5_158 : Cond.methodLink RX5 158 yX5_passKey ∈ uTb := mT5 (List.mem_of_getElem? (i := 64) rfl) rfl
theorem mim_X5_passKey : Cond.instanceMethod yX5_passKey ∈ uTb := mT5 (List.mem_of_getElem? (i := 66) rfl) rfl
theorem mco_X5_passKey : Cond.code yX5_passKey cX5_passKey 2 (some .boolean) ∈ uTb := mT5 (List.mem_of_getElem? (i := 67) rfl) rfl
theorem mml_X5_95 : Cond.methodLink RX5 95 yX5_readActs ∈ uTb := mT5 (List.mem_of_getElem? (i := 68) rfl) rfl
theorem mim_X5_readActs : Cond.instanceMethod yX5_readActs ∈ uTb := mT5 (List.mem_of_getElem? (i := 70) rfl) rfl
theorem mco_X5_readActs : Cond.code yX5_readActs cX5_readActs 3 (some .boolean) ∈ uTb := mT5 (List.mem_of_getElem? (i := 71) rfl) rfl
theorem mml_X5_161 : Cond.methodLink RX5 161 yX5_readAct ∈ uTb := mT5 (List.mem_of_getElem? (i := 72) rfl) rfl
theorem mim_X5_readAct : Cond.instanceMethod yX5_readAct ∈ uTb := mT5 (List.mem_of_getElem? (i := 74) rfl) rfl
theorem mco_X5_readAct : Cond.code yX5_readAct cX5_readAct 4 (some .boolean) ∈ uTb := mT5 (List.mem_of_getElem? (i := 75) rfl) rfl
theorem mml_X5_167 : Cond.methodLink RX5 167 yX5_readWait ∈ uTb := mT5 (List.mem_of_getElem? (i := 76) rfl) rfl
theorem mim_X5_readWait : Cond.instanceMethod yX5_readWait ∈ uTb := mT5 (List.mem_of_getElem? (i := 78) rfl) rfl
theorem mco_X5_readWait : Cond.code yX5_readWait cX5_readWait 2 (some .boolean) ∈ uTb := mT5 (List.mem_of_getElem? (i := 79) rfl) rfl
theorem mml_X5_170 : Cond.methodLink RX5 170 yX5_readSend ∈ uTb := mT5 (List.mem_of_getElem? (i := 80) rfl) rfl
theorem mim_X5_readSend : Cond.instanceMethod yX5_readSend ∈ uTb := mT5 (List.mem_of_getElem? (i := 82) rfl) rfl
theorem mco_X5_readSend : Cond.code yX5_readSend cX5_readSend 2 (some .boolean) ∈ uTb := mT5 (List.mem_of_getElem? (i := 83) rfl) rfl
theorem mml_X5_98 : Cond.methodLink RX5 98 yX5_passMark ∈ uTb := mT5 (List.mem_of_getElem? (i := 84) rfl) rfl
theorem mim_X5_passMark : Cond.instanceMethod yX5_passMark ∈ uTb := mT5 (List.mem_of_getElem? (i := 86) rfl) rfl
theorem mco_X5_passMark : Cond.code yX5_passMark cX5_passMark 2 (some .boolean) ∈ uTb := mT5 (List.mem_of_getElem? (i := 87) rfl) rfl
theorem mml_X5_101 : Cond.methodLink RX5 101 yX5_findOrderWords ∈ uTb := mT5 (List.mem_of_getElem? (i := 88) rfl) rfl
theorem mim_X5_findOrderWords : Cond.instanceMethod yX5_findOrderWords ∈ uTb := mT5 (List.mem_of_getElem? (i := 90) rfl) rfl
theorem mco_X5_findOrderWords : Cond.code yX5_findOrderWords cX5_findOrderWords 3 (some .boolean) ∈ uTb := mT5 (List.mem_of_getElem? (i := 91) rfl) rfl
theorem mml_X5_182 : Cond.methodLink RX5 182 yX5_findActWords ∈ uTb := mT5 (List.mem_of_getElem? (i := 92) rfl) rfl
theorem mim_X5_findActWords : Cond.instanceMethod yX5_findActWords ∈ uTb := mT5 (List.mem_of_getElem? (i := 94) rfl) rfl
theorem mco_X5_findActWords : Cond.code yX5_findActWords cX5_findActWords 5 (some .boolean) ∈ uTb := mT5 (List.mem_of_getElem? (i := 95) rfl) rfl
theorem mml_X11_231 : Cond.methodLink RX11 231 yX5_exchange ∈ uTb := mT5 (List.mem_of_getElem? (i := 96) rfl) rfl
theorem mim_X5_exchange : Cond.instanceMethod yX5_exchange ∈ uTb := mT5 (List.mem_of_getElem? (i := 97) rfl) rfl
theorem mse_X5_exchange : Cond.selects RX5 yX5_exchange yX5_exchange ∈ uTb := mT5 (List.mem_of_getElem? (i := 98) rfl) rfl
theorem mco_X5_exchange : Cond.code yX5_exchange cX5_exchange 3 (some (.object "FrontierDesk$Rules")) ∈ uTb := mT5 (List.mem_of_getElem? (i := 99) rfl) rfl
theorem mml_L_115 : Cond.methodLink RL 115 yX11_fault ∈ uTb := mT5 (List.mem_of_getElem? (i := 100) rfl) rfl
theorem mim_X11_fault : Cond.instanceMethod yX11_fault ∈ uTb := mT5 (List.mem_of_getElem? (i := 101) rfl) rfl
theorem mse_X11_fault : Cond.selects RX11 yX11_fault yX11_fault ∈ uTb := mT5 (List.mem_of_getElem? (i := 102) rfl) rfl
theorem mco_X11_fault : Cond.code yX11_fault cX11_fault 2 (some .int) ∈ uTb := mT5 (List.mem_of_getElem? (i := 103) rfl) rfl
theorem mml_L_119 : Cond.methodLink RL 119 yX11_send ∈ uTb := mT5 (List.mem_of_getElem? (i := 104) rfl) rfl
theorem mim_X11_send : Cond.instanceMethod yX11_send ∈ uTb := mT5 (List.mem_of_getElem? (i := 105) rfl) rfl
theorem mse_X11_send : Cond.selects RX11 yX11_send yX11_send ∈ uTb := mT5 (List.mem_of_getElem? (i := 106) rfl) rfl
theorem mco_X11_send : Cond.code yX11_send cX11_send 6 (some .int) ∈ uTb := mT5 (List.mem_of_getElem? (i := 107) rfl) rfl
theorem mml_X11_244 : Cond.methodLink RX11 244 yX2_run ∈ uTb := mT5 (List.mem_of_getElem? (i := 108) rfl) rfl
theorem mim_X2_run : Cond.instanceMethod yX2_run ∈ uTb := mT5 (List.mem_of_getElem? (i := 109) rfl) rfl
theorem mse_X2_run : Cond.selects RX2 yX2_run yX2_run ∈ uTb := mT5 (List.mem_of_getElem? (i := 110) rfl) rfl
theorem mco_X2_run : Cond.code yX2_run cX2_run 5 (some .int) ∈ uTb := mT5 (List.mem_of_getElem? (i := 111) rfl) rfl
theorem mml_X2_59 : Cond.methodLink RX2 59 yJ7_fill_53178 ∈ uTb := mT5 (List.mem_of_getElem? (i := 112) rfl) rfl
theorem mct_X2_67 : Cond.constant RX2 67 (2147483647) ∈ uTb := mT5 (List.mem_of_getElem? (i := 113) rfl) rfl
theorem mml_X2_68 : Cond.methodLink RX2 68 yX2_hear ∈ uTb := mT5 (List.mem_of_getElem? (i := 114) rfl) rfl
theorem mim_X2_hear : Cond.instanceMethod yX2_hear ∈ uTb := mT5 (List.mem_of_getElem? (i := 116) rfl) rfl
theorem mco_X2_hear : Cond.code yX2_hear cX2_hear 8 none ∈ uTb := mT5 (List.mem_of_getElem? (i := 117) rfl) rfl
theorem mml_X2_91 : Cond.methodLink RX2 91 yX2_bit ∈ uTb := mT5 (List.mem_of_getElem? (i := 118) rfl) rfl
theorem mst_X2_bit : Cond.static yX2_bit ∈ uTb := mT5 (List.mem_of_getElem? (i := 119) rfl) rfl
theorem mco_X2_bit : Cond.code yX2_bit cX2_bit 1 (some .int) ∈ uTb := mT5 (List.mem_of_getElem? (i := 120) rfl) rfl
theorem mml_X2_94 : Cond.methodLink RX2 94 yX2_nextOrder ∈ uTb := mT5 (List.mem_of_getElem? (i := 121) rfl) rfl
theorem mim_X2_nextOrder : Cond.instanceMethod yX2_nextOrder ∈ uTb := mT5 (List.mem_of_getElem? (i := 123) rfl) rfl
theorem mco_X2_nextOrder : Cond.code yX2_nextOrder cX2_nextOrder 7 (some .int) ∈ uTb := mT5 (List.mem_of_getElem? (i := 124) rfl) rfl
theorem mml_X2_101 : Cond.methodLink RX2 101 yJ6_bitCount_0f7a4 ∈ uTb := mT5 (List.mem_of_getElem? (i := 125) rfl) rfl
theorem mml_X2_98 : Cond.methodLink RX2 98 yX2_carryOut ∈ uTb := mT5 (List.mem_of_getElem? (i := 126) rfl) rfl
theorem mim_X2_carryOut : Cond.instanceMethod yX2_carryOut ∈ uTb := mT5 (List.mem_of_getElem? (i := 128) rfl) rfl
theorem mco_X2_carryOut : Cond.code yX2_carryOut cX2_carryOut 11 none ∈ uTb := mT5 (List.mem_of_getElem? (i := 129) rfl) rfl
theorem mml_X2_118 : Cond.methodLink RX2 118 yJ9_max_7cf53 ∈ uTb := mT5 (List.mem_of_getElem? (i := 130) rfl) rfl
theorem mml_X2_135 : Cond.methodLink RX2 135 yJ9_min_7cf53 ∈ uTb := mT5 (List.mem_of_getElem? (i := 131) rfl) rfl
theorem mml_X2_138 : Cond.methodLink RX2 138 yX7_minutesToSend ∈ uTb := mT5 (List.mem_of_getElem? (i := 132) rfl) rfl
theorem mim_X7_minutesToSend : Cond.instanceMethod yX7_minutesToSend ∈ uTb := mT5 (List.mem_of_getElem? (i := 133) rfl) rfl
theorem mse_X7_minutesToSend : Cond.selects RX7 yX7_minutesToSend yX7_minutesToSend ∈ uTb := mT5 (List.mem_of_getElem? (i := 134) rfl) rfl
theorem mco_X7_minutesToSend : Cond.code yX7_minutesToSend cX7_minutesToSend 2 (some .int) ∈ uTb := mT5 (List.mem_of_getElem? (i := 135) rfl) rfl
theorem mml_X2_141 : Cond.methodLink RX2 141 yX2_show ∈ uTb := mT5 (List.mem_of_getElem? (i := 136) rfl) rfl
theorem mim_X2_show : Cond.instanceMethod yX2_show ∈ uTb := mT5 (List.mem_of_getElem? (i := 138) rfl) rfl
theorem mco_X2_show : Cond.code yX2_show cX2_show 6 none ∈ uTb := mT5 (List.mem_of_getElem? (i := 139) rfl) rfl
theorem mml_X2_148 : Cond.methodLink RX2 148 yX2_queue ∈ uTb := mT5 (List.mem_of_getElem? (i := 140) rfl) rfl
theorem mim_X2_queue : Cond.instanceMethod yX2_queue ∈ uTb := mT5 (List.mem_of_getElem? (i := 142) rfl) rfl
theorem mco_X2_queue : Cond.code yX2_queue cX2_queue 7 none ∈ uTb := mT5 (List.mem_of_getElem? (i := 143) rfl) rfl
theorem mml_X2_72 : Cond.methodLink RX2 72 yX2_lookAt ∈ uTb := mT5 (List.mem_of_getElem? (i := 144) rfl) rfl
theorem mim_X2_lookAt : Cond.instanceMethod yX2_lookAt ∈ uTb := mT5 (List.mem_of_getElem? (i := 146) rfl) rfl
theorem mco_X2_lookAt : Cond.code yX2_lookAt cX2_lookAt 7 none ∈ uTb := mT5 (List.mem_of_getElem? (i := 147) rfl) rfl
theorem mml_X2_85 : Cond.methodLink RX2 85 yX7_readDimly ∈ uTb := mT5 (List.mem_of_getElem? (i := 148) rfl) rfl
theorem mim_X7_readDimly : Cond.instanceMethod yX7_readDimly ∈ uTb := mT5 (List.mem_of_getElem? (i := 149) rfl) rfl
theorem mse_X7_readDimly : Cond.selects RX7 yX7_readDimly yX7_readDimly ∈ uTb := mT5 (List.mem_of_getElem? (i := 150) rfl) rfl
theorem mco_X7_readDimly : Cond.code yX7_readDimly cX7_readDimly 6 (some .int) ∈ uTb := mT5 (List.mem_of_getElem? (i := 151) rfl) rfl
theorem mml_X7_72 : Cond.methodLink RX7 72 yX7_wordOfRow ∈ uTb := mT5 (List.mem_of_getElem? (i := 152) rfl) rfl
theorem mml_X2_76 : Cond.methodLink RX2 76 yX2_postsThatHeard ∈ uTb := mT5 (List.mem_of_getElem? (i := 153) rfl) rfl
theorem mim_X2_postsThatHeard : Cond.instanceMethod yX2_postsThatHeard ∈ uTb := mT5 (List.mem_of_getElem? (i := 155) rfl) rfl
theorem mco_X2_postsThatHeard : Cond.code yX2_postsThatHeard cX2_postsThatHeard 3 (some .int) ∈ uTb := mT5 (List.mem_of_getElem? (i := 156) rfl) rfl
theorem mml_L_123 : Cond.methodLink RL 123 yX11_heard ∈ uTb := mT5 (List.mem_of_getElem? (i := 157) rfl) rfl
theorem mim_X11_heard : Cond.instanceMethod yX11_heard ∈ uTb := mT5 (List.mem_of_getElem? (i := 158) rfl) rfl
theorem mse_X11_heard : Cond.selects RX11 yX11_heard yX11_heard ∈ uTb := mT5 (List.mem_of_getElem? (i := 159) rfl) rfl
theorem mco_X11_heard : Cond.code yX11_heard cX11_heard 4 (some .int) ∈ uTb := mT5 (List.mem_of_getElem? (i := 160) rfl) rfl
theorem mml_X11_248 : Cond.methodLink RX11 248 yX2_hearing ∈ uTb := mT5 (List.mem_of_getElem? (i := 161) rfl) rfl
theorem mim_X2_hearing : Cond.instanceMethod yX2_hearing ∈ uTb := mT5 (List.mem_of_getElem? (i := 162) rfl) rfl
theorem mse_X2_hearing : Cond.selects RX2 yX2_hearing yX2_hearing ∈ uTb := mT5 (List.mem_of_getElem? (i := 163) rfl) rfl
theorem mco_X2_hearing : Cond.code yX2_hearing cX2_hearing 5 (some .int) ∈ uTb := mT5 (List.mem_of_getElem? (i := 164) rfl) rfl
theorem mml_L_127 : Cond.methodLink RL 127 yX11_sent ∈ uTb := mT5 (List.mem_of_getElem? (i := 165) rfl) rfl
theorem mim_X11_sent : Cond.instanceMethod yX11_sent ∈ uTb := mT5 (List.mem_of_getElem? (i := 166) rfl) rfl
theorem mse_X11_sent : Cond.selects RX11 yX11_sent yX11_sent ∈ uTb := mT5 (List.mem_of_getElem? (i := 167) rfl) rfl
theorem mco_X11_sent : Cond.code yX11_sent cX11_sent 2 (some .int) ∈ uTb := mT5 (List.mem_of_getElem? (i := 168) rfl) rfl
theorem mml_L_131 : Cond.methodLink RL 131 yX11_way ∈ uTb := mT5 (List.mem_of_getElem? (i := 169) rfl) rfl
theorem mim_X11_way : Cond.instanceMethod yX11_way ∈ uTb := mT5 (List.mem_of_getElem? (i := 170) rfl) rfl
theorem mse_X11_way : Cond.selects RX11 yX11_way yX11_way ∈ uTb := mT5 (List.mem_of_getElem? (i := 171) rfl) rfl
theorem mco_X11_way : Cond.code yX11_way cX11_way 3 (some .int) ∈ uTb := mT5 (List.mem_of_getElem? (i := 172) rfl) rfl
theorem mml_X11_254 : Cond.methodLink RX11 254 yX4_stands ∈ uTb := mT5 (List.mem_of_getElem? (i := 173) rfl) rfl
theorem mml_X11_257 : Cond.methodLink RX11 257 yX0_measure ∈ uTb := mT5 (List.mem_of_getElem? (i := 174) rfl) rfl
theorem mim_X0_measure : Cond.instanceMethod yX0_measure ∈ uTb := mT5 (List.mem_of_getElem? (i := 175) rfl) rfl
theorem mse_X0_measure : Cond.selects RX0 yX0_measure yX0_measure ∈ uTb := mT5 (List.mem_of_getElem? (i := 176) rfl) rfl
theorem mco_X0_measure : Cond.code yX0_measure cX0_measure 5 none ∈ uTb := mT5 (List.mem_of_getElem? (i := 177) rfl) rfl
theorem mct_X0_61 : Cond.constant RX0 61 (1073741823) ∈ uTb := mT5 (List.mem_of_getElem? (i := 178) rfl) rfl
theorem mml_X0_62 : Cond.methodLink RX0 62 yJ7_fill_53178 ∈ uTb := mT5 (List.mem_of_getElem? (i := 179) rfl) rfl
theorem mml_X0_71 : Cond.methodLink RX0 71 yX0_lowerAll ∈ uTb := mT5 (List.mem_of_getElem? (i := 180) rfl) rfl
theorem mim_X0_lowerAll : Cond.instanceMethod yX0_lowerAll ∈ uTb := mT5 (List.mem_of_getElem? (i := 182) rfl) rfl
theorem mco_X0_lowerAll : Cond.code yX0_lowerAll cX0_lowerAll 8 (some .boolean) ∈ uTb := mT5 (List.mem_of_getElem? (i := 183) rfl) rfl
theorem mml_X0_81 : Cond.methodLink RX0 81 yX0_lower ∈ uTb := mT5 (List.mem_of_getElem? (i := 184) rfl) rfl
theorem mim_X0_lower : Cond.instanceMethod yX0_lower ∈ uTb := mT5 (List.mem_of_getElem? (i := 186) rfl) rfl
theorem mco_X0_lower : Cond.code yX0_lower cX0_lower 7 (some .boolean) ∈ uTb := mT5 (List.mem_of_getElem? (i := 187) rfl) rfl
theorem mml_X0_85 : Cond.methodLink RX0 85 yX9_cell ∈ uTb := mT5 (List.mem_of_getElem? (i := 188) rfl) rfl
theorem mml_X0_89 : Cond.methodLink RX0 89 yX0_over ∈ uTb := mT5 (List.mem_of_getElem? (i := 189) rfl) rfl
theorem mim_X0_over : Cond.instanceMethod yX0_over ∈ uTb := mT5 (List.mem_of_getElem? (i := 191) rfl) rfl
theorem mco_X0_over : Cond.code yX0_over cX0_over 8 (some .int) ∈ uTb := mT5 (List.mem_of_getElem? (i := 192) rfl) rfl
theorem mml_X0_98 : Cond.methodLink RX0 98 yX9_has ∈ uTb := mT5 (List.mem_of_getElem? (i := 193) rfl) rfl
theorem mml_X0_93 : Cond.methodLink RX0 93 yJ9_min_7cf53 ∈ uTb := mT5 (List.mem_of_getElem? (i := 194) rfl) rfl
theorem mml_L_135 : Cond.methodLink RL 135 yX11_store ∈ uTb := mT5 (List.mem_of_getElem? (i := 195) rfl) rfl
theorem mim_X11_store : Cond.instanceMethod yX11_store ∈ uTb := mT5 (List.mem_of_getElem? (i := 196) rfl) rfl
theorem mse_X11_store : Cond.selects RX11 yX11_store yX11_store ∈ uTb := mT5 (List.mem_of_getElem? (i := 197) rfl) rfl
theorem mco_X11_store : Cond.code yX11_store cX11_store 3 (some .boolean) ∈ uTb := mT5 (List.mem_of_getElem? (i := 198) rfl) rfl
theorem mml_L_139 : Cond.methodLink RL 139 yX11_supply ∈ uTb := mT5 (List.mem_of_getElem? (i := 199) rfl) rfl
theorem mim_X11_supply : Cond.instanceMethod yX11_supply ∈ uTb := mT5 (List.mem_of_getElem? (i := 200) rfl) rfl
theorem mse_X11_supply : Cond.selects RX11 yX11_supply yX11_supply ∈ uTb := mT5 (List.mem_of_getElem? (i := 201) rfl) rfl
theorem mco_X11_supply : Cond.code yX11_supply cX11_supply 2 (some .int) ∈ uTb := mT5 (List.mem_of_getElem? (i := 202) rfl) rfl
theorem mml_X11_270 : Cond.methodLink RX11 270 yX0_measureAll ∈ uTb := mT5 (List.mem_of_getElem? (i := 203) rfl) rfl
theorem mim_X0_measureAll : Cond.instanceMethod yX0_measureAll ∈ uTb := mT5 (List.mem_of_getElem? (i := 204) rfl) rfl
theorem mse_X0_measureAll : Cond.selects RX0 yX0_measureAll yX0_measureAll ∈ uTb := mT5 (List.mem_of_getElem? (i := 205) rfl) rfl
theorem mco_X0_measureAll : Cond.code yX0_measureAll cX0_measureAll 2 none ∈ uTb := mT5 (List.mem_of_getElem? (i := 206) rfl) rfl
theorem mml_X0_57 : Cond.methodLink RX0 57 yX0_measure ∈ uTb := mT5 (List.mem_of_getElem? (i := 207) rfl) rfl
theorem mml_X11_273 : Cond.methodLink RX11 273 yX0_carryAll ∈ uTb := mT5 (List.mem_of_getElem? (i := 208) rfl) rfl
theorem mim_X0_carryAll : Cond.instanceMethod yX0_carryAll ∈ uTb := mT5 (List.mem_of_getElem? (i := 209) rfl) rfl
theorem mse_X0_carryAll : Cond.selects RX0 yX0_carryAll yX0_carryAll ∈ uTb := mT5 (List.mem_of_getElem? (i := 210) rfl) rfl
theorem mco_X0_carryAll : Cond.code yX0_carryAll cX0_carryAll 5 (some .int) ∈ uTb := mT5 (List.mem_of_getElem? (i := 211) rfl) rfl
theorem mml_X0_108 : Cond.methodLink RX0 108 yX0_begin ∈ uTb := mT5 (List.mem_of_getElem? (i := 212) rfl) rfl
theorem mim_X0_begin : Cond.instanceMethod yX0_begin ∈ uTb := mT5 (List.mem_of_getElem? (i := 214) rfl) rfl
theorem mco_X0_begin : Cond.code yX0_begin cX0_begin 3 none ∈ uTb := mT5 (List.mem_of_getElem? (i := 215) rfl) rfl
theorem mml_X0_111 : Cond.methodLink RX0 111 yX0_nearestPair ∈ uTb := mT5 (List.mem_of_getElem? (i := 216) rfl) rfl
theorem mim_X0_nearestPair : Cond.instanceMethod yX0_nearestPair ∈ uTb := mT5 (List.mem_of_getElem? (i := 218) rfl) rfl
theorem mco_X0_nearestPair : Cond.code yX0_nearestPair cX0_nearestPair 6 (some .int) ∈ uTb := mT5 (List.mem_of_getElem? (i := 219) rfl) rfl
theorem mml_X0_121 : Cond.methodLink RX0 121 yX0_hasStore ∈ uTb := mT5 (List.mem_of_getElem? (i := 220) rfl) rfl
theorem mim_X0_hasStore : Cond.instanceMethod yX0_hasStore ∈ uTb := mT5 (List.mem_of_getElem? (i := 222) rfl) rfl
theorem mco_X0_hasStore : Cond.code yX0_hasStore cX0_hasStore 2 (some .boolean) ∈ uTb := mT5 (List.mem_of_getElem? (i := 223) rfl) rfl
theorem mml_X0_115 : Cond.methodLink RX0 115 yX0_carry ∈ uTb := mT5 (List.mem_of_getElem? (i := 224) rfl) rfl
theorem mim_X0_carry : Cond.instanceMethod yX0_carry ∈ uTb := mT5 (List.mem_of_getElem? (i := 226) rfl) rfl
theorem mco_X0_carry : Cond.code yX0_carry cX0_carry 4 (some .int) ∈ uTb := mT5 (List.mem_of_getElem? (i := 227) rfl) rfl
theorem mml_L_143 : Cond.methodLink RL 143 yX11_supplied ∈ uTb := mT5 (List.mem_of_getElem? (i := 228) rfl) rfl
theorem mim_X11_supplied : Cond.instanceMethod yX11_supplied ∈ uTb := mT5 (List.mem_of_getElem? (i := 229) rfl) rfl
theorem mse_X11_supplied : Cond.selects RX11 yX11_supplied yX11_supplied ∈ uTb := mT5 (List.mem_of_getElem? (i := 230) rfl) rfl
theorem mco_X11_supplied : Cond.code yX11_supplied cX11_supplied 3 (some .int) ∈ uTb := mT5 (List.mem_of_getElem? (i := 231) rfl) rfl
theorem mml_X11_276 : Cond.methodLink RX11 276 yX0_told ∈ uTb := mT5 (List.mem_of_getElem? (i := 232) rfl) rfl
theorem mim_X0_told : Cond.instanceMethod yX0_told ∈ uTb := mT5 (List.mem_of_getElem? (i := 233) rfl) rfl
theorem mse_X0_told : Cond.selects RX0 yX0_told yX0_told ∈ uTb := mT5 (List.mem_of_getElem? (i := 234) rfl) rfl
theorem mco_X0_told : Cond.code yX0_told cX0_told 3 (some .int) ∈ uTb := mT5 (List.mem_of_getElem? (i := 235) rfl) rfl
theorem mml_L_147 : Cond.methodLink RL 147 yX11_look ∈ uTb := mT5 (List.mem_of_getElem? (i := 236) rfl) rfl
theorem mim_X11_look : Cond.instanceMethod yX11_look ∈ uTb := mT5 (List.mem_of_getElem? (i := 237) rfl) rfl
theorem mse_X11_look : Cond.selects RX11 yX11_look yX11_look ∈ uTb := mT5 (List.mem_of_getElem? (i := 238) rfl) rfl
theorem mco_X11_look : Cond.code yX11_look cX11_look 3 (some .int) ∈ uTb := mT5 (List.mem_of_getElem? (i := 239) rfl) rfl
theorem mml_X11_279 : Cond.methodLink RX11 279 yX4_trait ∈ uTb := mT6 (List.mem_of_getElem? (i := 0) rfl) rfl
theorem mim_X4_trait : Cond.instanceMethod yX4_trait ∈ uTb := mT6 (List.mem_of_getElem? (i := 1) rfl) rfl
theorem mse_X4_trait : Cond.selects RX4 yX4_trait yX4_trait ∈ uTb := mT6 (List.mem_of_getElem? (i := 2) rfl) rfl
theorem mco_X4_trait : Cond.code yX4_trait cX4_trait 3 (some .int) ∈ uTb := mT6 (List.mem_of_getElem? (i := 3) rfl) rfl
theorem mml_L_151 : Cond.methodLink RL 151 yX11_count ∈ uTb := mT6 (List.mem_of_getElem? (i := 4) rfl) rfl
theorem mim_X11_count : Cond.instanceMethod yX11_count ∈ uTb := mT6 (List.mem_of_getElem? (i := 5) rfl) rfl
theorem mse_X11_count : Cond.selects RX11 yX11_count yX11_count ∈ uTb := mT6 (List.mem_of_getElem? (i := 6) rfl) rfl
theorem mco_X11_count : Cond.code yX11_count cX11_count 2 (some .int) ∈ uTb := mT6 (List.mem_of_getElem? (i := 7) rfl) rfl
theorem mcl_L_10 : Cond.classLink RL 10 RX12 ∈ uTb := mT6 (List.mem_of_getElem? (i := 8) rfl) rfl
theorem mis_X12 : Cond.instantiable RX12 99 ∈ uTb := mT6 (List.mem_of_getElem? (i := 9) rfl) rfl
theorem mml_L_12 : Cond.methodLink RL 12 yX12_init ∈ uTb := mT6 (List.mem_of_getElem? (i := 10) rfl) rfl
theorem mim_X12_init : Cond.instanceMethod yX12_init ∈ uTb := mT6 (List.mem_of_getElem? (i := 11) rfl) rfl
theorem mco_X12_init : Cond.code yX12_init cX12_init 2 none ∈ uTb := mT6 (List.mem_of_getElem? (i := 12) rfl) rfl
theorem mml_X12_1 : Cond.methodLink RX12 1 objectInit ∈ uTb := mT6 (List.mem_of_getElem? (i := 13) rfl) rfl
theorem mml_X12_220 : Cond.methodLink RX12 220 yX12_clearsRules ∈ uTb := mT6 (List.mem_of_getElem? (i := 14) rfl) rfl
theorem mim_X12_clearsRules : Cond.instanceMethod yX12_clearsRules ∈ uTb := mT6 (List.mem_of_getElem? (i := 16) rfl) rfl
theorem mco_X12_clearsRules : Cond.code yX12_clearsRules cX12_clearsRules 3 none ∈ uTb := mT6 (List.mem_of_getElem? (i := 17) rfl) rfl
theorem mfl_X12_224 : Cond.fieldLink RX12 224 "FrontierDeskModel" "thrown" "I" ∈ uTb := mT6 (List.mem_of_getElem? (i := 18) rfl) rfl
theorem mfl_X12_7 : Cond.fieldLink RX12 7 "FrontierDeskModel" "wide" "I" ∈ uTb := mT6 (List.mem_of_getElem? (i := 19) rfl) rfl
theorem mfl_X12_13 : Cond.fieldLink RX12 13 "FrontierDeskModel" "tall" "I" ∈ uTb := mT6 (List.mem_of_getElem? (i := 20) rfl) rfl
theorem mfl_X12_16 : Cond.fieldLink RX12 16 "FrontierDeskModel" "heights" "[I" ∈ uTb := mT6 (List.mem_of_getElem? (i := 21) rfl) rfl
theorem mfl_X12_20 : Cond.fieldLink RX12 20 "FrontierDeskModel" "woods" "[I" ∈ uTb := mT6 (List.mem_of_getElem? (i := 22) rfl) rfl
theorem mfl_X12_23 : Cond.fieldLink RX12 23 "FrontierDeskModel" "treesLow" "[I" ∈ uTb := mT6 (List.mem_of_getElem? (i := 23) rfl) rfl
theorem mfl_X12_26 : Cond.fieldLink RX12 26 "FrontierDeskModel" "treesHigh" "[I" ∈ uTb := mT6 (List.mem_of_getElem? (i := 24) rfl) rfl
theorem mfl_X12_243 : Cond.fieldLink RX12 243 "FrontierDeskModel" "bend" "I" ∈ uTb := mT6 (List.mem_of_getElem? (i := 25) rfl) rfl
theorem mfl_X12_29 : Cond.fieldLink RX12 29 "FrontierDeskModel" "worst" "[I" ∈ uTb := mT6 (List.mem_of_getElem? (i := 26) rfl) rfl
theorem mfl_X12_32 : Cond.fieldLink RX12 32 "FrontierDeskModel" "best" "[I" ∈ uTb := mT6 (List.mem_of_getElem? (i := 27) rfl) rfl
theorem mfl_X12_227 : Cond.fieldLink RX12 227 "FrontierDeskModel" "posts" "I" ∈ uTb := mT6 (List.mem_of_getElem? (i := 28) rfl) rfl
theorem mfl_X12_35 : Cond.fieldLink RX12 35 "FrontierDeskModel" "px" "[I" ∈ uTb := mT6 (List.mem_of_getElem? (i := 29) rfl) rfl
theorem mfl_X12_38 : Cond.fieldLink RX12 38 "FrontierDeskModel" "py" "[I" ∈ uTb := mT6 (List.mem_of_getElem? (i := 30) rfl) rfl
theorem mfl_X12_41 : Cond.fieldLink RX12 41 "FrontierDeskModel" "towerLow" "[I" ∈ uTb := mT6 (List.mem_of_getElem? (i := 31) rfl) rfl
theorem mfl_X12_44 : Cond.fieldLink RX12 44 "FrontierDeskModel" "towerHigh" "[I" ∈ uTb := mT6 (List.mem_of_getElem? (i := 32) rfl) rfl
theorem mfl_X12_47 : Cond.fieldLink RX12 47 "FrontierDeskModel" "state" "[I" ∈ uTb := mT6 (List.mem_of_getElem? (i := 33) rfl) rfl
theorem mfl_X12_50 : Cond.fieldLink RX12 50 "FrontierDeskModel" "men" "[I" ∈ uTb := mT6 (List.mem_of_getElem? (i := 34) rfl) rfl
theorem mfl_X12_53 : Cond.fieldLink RX12 53 "FrontierDeskModel" "store" "[I" ∈ uTb := mT6 (List.mem_of_getElem? (i := 35) rfl) rfl
theorem mfl_X12_230 : Cond.fieldLink RX12 230 "FrontierDeskModel" "notes" "I" ∈ uTb := mT6 (List.mem_of_getElem? (i := 36) rfl) rfl
theorem mfl_X12_56 : Cond.fieldLink RX12 56 "FrontierDeskModel" "noteSort" "[I" ∈ uTb := mT6 (List.mem_of_getElem? (i := 37) rfl) rfl
theorem mfl_X12_59 : Cond.fieldLink RX12 59 "FrontierDeskModel" "noteA" "[I" ∈ uTb := mT6 (List.mem_of_getElem? (i := 38) rfl) rfl
theorem mfl_X12_62 : Cond.fieldLink RX12 62 "FrontierDeskModel" "noteB" "[I" ∈ uTb := mT6 (List.mem_of_getElem? (i := 39) rfl) rfl
theorem mfl_X12_65 : Cond.fieldLink RX12 65 "FrontierDeskModel" "isStruck" "[Z" ∈ uTb := mT6 (List.mem_of_getElem? (i := 40) rfl) rfl
theorem mfl_X12_69 : Cond.fieldLink RX12 69 "FrontierDeskModel" "least" "[I" ∈ uTb := mT6 (List.mem_of_getElem? (i := 41) rfl) rfl
theorem mfl_X12_72 : Cond.fieldLink RX12 72 "FrontierDeskModel" "most" "[I" ∈ uTb := mT6 (List.mem_of_getElem? (i := 42) rfl) rfl
theorem mfl_X12_317 : Cond.fieldLink RX12 317 "FrontierDeskModel" "moved" "Z" ∈ uTb := mT6 (List.mem_of_getElem? (i := 43) rfl) rfl
theorem mfl_X12_75 : Cond.fieldLink RX12 75 "FrontierDeskModel" "near" "[I" ∈ uTb := mT6 (List.mem_of_getElem? (i := 44) rfl) rfl
theorem mfl_X12_335 : Cond.fieldLink RX12 335 "FrontierDeskModel" "inLine" "I" ∈ uTb := mT6 (List.mem_of_getElem? (i := 45) rfl) rfl
theorem mfl_X12_338 : Cond.fieldLink RX12 338 "FrontierDeskModel" "couldBe" "I" ∈ uTb := mT6 (List.mem_of_getElem? (i := 46) rfl) rfl
theorem mfl_X12_237 : Cond.fieldLink RX12 237 "FrontierDeskModel" "isJoined" "Z" ∈ uTb := mT6 (List.mem_of_getElem? (i := 47) rfl) rfl
theorem mfl_X12_78 : Cond.fieldLink RX12 78 "FrontierDeskModel" "rivals" "[I" ∈ uTb := mT6 (List.mem_of_getElem? (i := 48) rfl) rfl
theorem mfl_X12_366 : Cond.fieldLink RX12 366 "FrontierDeskModel" "rivalMany" "I" ∈ uTb := mT6 (List.mem_of_getElem? (i := 49) rfl) rfl
theorem mfl_X12_369 : Cond.fieldLink RX12 369 "FrontierDeskModel" "wereSupposed" "I" ∈ uTb := mT6 (List.mem_of_getElem? (i := 50) rfl) rfl
theorem mfl_X12_81 : Cond.fieldLink RX12 81 "FrontierDeskModel" "tape" "[I" ∈ uTb := mT6 (List.mem_of_getElem? (i := 51) rfl) rfl
theorem mfl_X12_378 : Cond.fieldLink RX12 378 "FrontierDeskModel" "taped" "I" ∈ uTb := mT6 (List.mem_of_getElem? (i := 52) rfl) rfl
theorem mfl_X12_84 : Cond.fieldLink RX12 84 "FrontierDeskModel" "words" "[I" ∈ uTb := mT6 (List.mem_of_getElem? (i := 53) rfl) rfl
theorem mfl_X12_87 : Cond.fieldLink RX12 87 "FrontierDeskModel" "wordName" "[J" ∈ uTb := mT6 (List.mem_of_getElem? (i := 54) rfl) rfl
theorem mfl_X12_91 : Cond.fieldLink RX12 91 "FrontierDeskModel" "wordLong" "[I" ∈ uTb := mT6 (List.mem_of_getElem? (i := 55) rfl) rfl
theorem mfl_X12_94 : Cond.fieldLink RX12 94 "FrontierDeskModel" "wordSigns" "[I" ∈ uTb := mT6 (List.mem_of_getElem? (i := 56) rfl) rfl
theorem mfl_X12_97 : Cond.fieldLink RX12 97 "FrontierDeskModel" "likeMany" "[I" ∈ uTb := mT6 (List.mem_of_getElem? (i := 57) rfl) rfl
theorem mfl_X12_100 : Cond.fieldLink RX12 100 "FrontierDeskModel" "likeA" "[I" ∈ uTb := mT6 (List.mem_of_getElem? (i := 58) rfl) rfl
theorem mfl_X12_103 : Cond.fieldLink RX12 103 "FrontierDeskModel" "likeB" "[I" ∈ uTb := mT6 (List.mem_of_getElem? (i := 59) rfl) rfl
theorem mfl_X12_106 : Cond.fieldLink RX12 106 "FrontierDeskModel" "minutes" "[I" ∈ uTb := mT6 (List.mem_of_getElem? (i := 60) rfl) rfl
theorem mfl_X12_109 : Cond.fieldLink RX12 109 "FrontierDeskModel" "look" "[I" ∈ uTb := mT6 (List.mem_of_getElem? (i := 61) rfl) rfl
theorem mfl_X12_112 : Cond.fieldLink RX12 112 "FrontierDeskModel" "orders" "[I" ∈ uTb := mT6 (List.mem_of_getElem? (i := 62) rfl) rfl
theorem mfl_X12_115 : Cond.fieldLink RX12 115 "FrontierDeskModel" "orderPost" "[I" ∈ uTb := mT6 (List.mem_of_getElem? (i := 63) rfl) rfl
theorem mfl_X12_118 : Cond.fieldLink RX12 118 "FrontierDeskModel" "orderName" "[J" ∈ uTb := mT6 (List.mem_of_getElem? (i := 64) rfl) rfl
theorem mfl_X12_121 : Cond.fieldLink RX12 121 "FrontierDeskModel" "orderPlace" "[I" ∈ uTb := mT6 (List.mem_of_getElem? (i := 65) rfl) rfl
theorem mfl_X12_124 : Cond.fieldLink RX12 124 "FrontierDeskModel" "orderWord" "[I" ∈ uTb := mT6 (List.mem_of_getElem? (i := 66) rfl) rfl
theorem mfl_X12_127 : Cond.fieldLink RX12 127 "FrontierDeskModel" "isTwice" "[Z" ∈ uTb := mT6 (List.mem_of_getElem? (i := 67) rfl) rfl
theorem mfl_X12_130 : Cond.fieldLink RX12 130 "FrontierDeskModel" "actMany" "[I" ∈ uTb := mT6 (List.mem_of_getElem? (i := 68) rfl) rfl
theorem mfl_X12_133 : Cond.fieldLink RX12 133 "FrontierDeskModel" "actKind" "[I" ∈ uTb := mT6 (List.mem_of_getElem? (i := 69) rfl) rfl
theorem mfl_X12_136 : Cond.fieldLink RX12 136 "FrontierDeskModel" "actName" "[J" ∈ uTb := mT6 (List.mem_of_getElem? (i := 70) rfl) rfl
theorem mfl_X12_139 : Cond.fieldLink RX12 139 "FrontierDeskModel" "actPlace" "[I" ∈ uTb := mT6 (List.mem_of_getElem? (i := 71) rfl) rfl
theorem mfl_X12_142 : Cond.fieldLink RX12 142 "FrontierDeskModel" "actWord" "[I" ∈ uTb := mT6 (List.mem_of_getElem? (i := 72) rfl) rfl
theorem mfl_X12_145 : Cond.fieldLink RX12 145 "FrontierDeskModel" "actTo" "[I" ∈ uTb := mT6 (List.mem_of_getElem? (i := 73) rfl) rfl
theorem mfl_X12_148 : Cond.fieldLink RX12 148 "FrontierDeskModel" "actWait" "[I" ∈ uTb := mT6 (List.mem_of_getElem? (i := 74) rfl) rfl
theorem mfl_X12_151 : Cond.fieldLink RX12 151 "FrontierDeskModel" "dim" "[I" ∈ uTb := mT6 (List.mem_of_getElem? (i := 75) rfl) rfl
theorem mfl_X12_384 : Cond.fieldLink RX12 384 "FrontierDeskModel" "size" "I" ∈ uTb := mT6 (List.mem_of_getElem? (i := 76) rfl) rfl
theorem mfl_X12_381 : Cond.fieldLink RX12 381 "FrontierDeskModel" "at" "I" ∈ uTb := mT6 (List.mem_of_getElem? (i := 77) rfl) rfl
theorem mfl_X12_391 : Cond.fieldLink RX12 391 "FrontierDeskModel" "place" "I" ∈ uTb := mT6 (List.mem_of_getElem? (i := 78) rfl) rfl
theorem mfl_X12_394 : Cond.fieldLink RX12 394 "FrontierDeskModel" "sort" "I" ∈ uTb := mT6 (List.mem_of_getElem? (i := 79) rfl) rfl
theorem mfl_X12_411 : Cond.fieldLink RX12 411 "FrontierDeskModel" "value" "I" ∈ uTb := mT6 (List.mem_of_getElem? (i := 80) rfl) rfl
theorem mfl_X12_400 : Cond.fieldLink RX12 400 "FrontierDeskModel" "name" "J" ∈ uTb := mT6 (List.mem_of_getElem? (i := 81) rfl) rfl
theorem mfl_X12_446 : Cond.fieldLink RX12 446 "FrontierDeskModel" "toldMinutes" "Z" ∈ uTb := mT6 (List.mem_of_getElem? (i := 82) rfl) rfl
theorem mfl_X12_449 : Cond.fieldLink RX12 449 "FrontierDeskModel" "toldLook" "Z" ∈ uTb := mT6 (List.mem_of_getElem? (i := 83) rfl) rfl
theorem mfl_X12_428 : Cond.fieldLink RX12 428 "FrontierDeskModel" "fault" "I" ∈ uTb := mT6 (List.mem_of_getElem? (i := 84) rfl) rfl
theorem mfl_X12_431 : Cond.fieldLink RX12 431 "FrontierDeskModel" "faultPlace" "I" ∈ uTb := mT6 (List.mem_of_getElem? (i := 85) rfl) rfl
theorem mfl_X12_483 : Cond.fieldLink RX12 483 "FrontierDeskModel" "lastFault" "I" ∈ uTb := mT6 (List.mem_of_getElem? (i := 86) rfl) rfl
theorem mfl_X12_154 : Cond.fieldLink RX12 154 "FrontierDeskModel" "lastPlace" "I" ∈ uTb := mT6 (List.mem_of_getElem? (i := 87) rfl) rfl
theorem mfl_X12_233 : Cond.fieldLink RX12 233 "FrontierDeskModel" "isSent" "Z" ∈ uTb := mT6 (List.mem_of_getElem? (i := 88) rfl) rfl
theorem mfl_X12_157 : Cond.fieldLink RX12 157 "FrontierDeskModel" "seenMinute" "[I" ∈ uTb := mT6 (List.mem_of_getElem? (i := 89) rfl) rfl
theorem mfl_X12_160 : Cond.fieldLink RX12 160 "FrontierDeskModel" "seenTo" "[I" ∈ uTb := mT6 (List.mem_of_getElem? (i := 90) rfl) rfl
theorem mfl_X12_163 : Cond.fieldLink RX12 163 "FrontierDeskModel" "seenFrom" "[I" ∈ uTb := mT6 (List.mem_of_getElem? (i := 91) rfl) rfl
theorem mfl_X12_166 : Cond.fieldLink RX12 166 "FrontierDeskModel" "seenWord" "[I" ∈ uTb := mT6 (List.mem_of_getElem? (i := 92) rfl) rfl
theorem mfl_X12_169 : Cond.fieldLink RX12 169 "FrontierDeskModel" "isLooked" "[Z" ∈ uTb := mT6 (List.mem_of_getElem? (i := 93) rfl) rfl
theorem mfl_X12_495 : Cond.fieldLink RX12 495 "FrontierDeskModel" "seen" "I" ∈ uTb := mT6 (List.mem_of_getElem? (i := 94) rfl) rfl
theorem mfl_X12_492 : Cond.fieldLink RX12 492 "FrontierDeskModel" "isSpent" "Z" ∈ uTb := mT6 (List.mem_of_getElem? (i := 95) rfl) rfl
theorem mfl_X12_172 : Cond.fieldLink RX12 172 "FrontierDeskModel" "heardMinute" "[I" ∈ uTb := mT6 (List.mem_of_getElem? (i := 96) rfl) rfl
theorem mfl_X12_175 : Cond.fieldLink RX12 175 "FrontierDeskModel" "heardFrom" "[I" ∈ uTb := mT6 (List.mem_of_getElem? (i := 97) rfl) rfl
theorem mfl_X12_178 : Cond.fieldLink RX12 178 "FrontierDeskModel" "heardSent" "[I" ∈ uTb := mT6 (List.mem_of_getElem? (i := 98) rfl) rfl
theorem mfl_X12_181 : Cond.fieldLink RX12 181 "FrontierDeskModel" "heardBy" "[I" ∈ uTb := mT6 (List.mem_of_getElem? (i := 99) rfl) rfl
theorem mfl_X12_184 : Cond.fieldLink RX12 184 "FrontierDeskModel" "busy" "[I" ∈ uTb := mT6 (List.mem_of_getElem? (i := 100) rfl) rfl
theorem mfl_X12_187 : Cond.fieldLink RX12 187 "FrontierDeskModel" "stopped" "[I" ∈ uTb := mT6 (List.mem_of_getElem? (i := 101) rfl) rfl
theorem mfl_X12_190 : Cond.fieldLink RX12 190 "FrontierDeskModel" "did" "[I" ∈ uTb := mT6 (List.mem_of_getElem? (i := 102) rfl) rfl
theorem mfl_X12_193 : Cond.fieldLink RX12 193 "FrontierDeskModel" "nearSure" "[I" ∈ uTb := mT6 (List.mem_of_getElem? (i := 103) rfl) rfl
theorem mfl_X12_514 : Cond.fieldLink RX12 514 "FrontierDeskModel" "sentLast" "I" ∈ uTb := mT6 (List.mem_of_getElem? (i := 104) rfl) rfl
theorem mfl_X12_523 : Cond.fieldLink RX12 523 "FrontierDeskModel" "sentOther" "I" ∈ uTb := mT6 (List.mem_of_getElem? (i := 105) rfl) rfl
theorem mfl_X12_520 : Cond.fieldLink RX12 520 "FrontierDeskModel" "sentNone" "I" ∈ uTb := mT6 (List.mem_of_getElem? (i := 106) rfl) rfl
theorem mfl_X12_508 : Cond.fieldLink RX12 508 "FrontierDeskModel" "sentOrders" "I" ∈ uTb := mT6 (List.mem_of_getElem? (i := 107) rfl) rfl
theorem mfl_X12_196 : Cond.fieldLink RX12 196 "FrontierDeskModel" "cost" "[I" ∈ uTb := mT6 (List.mem_of_getElem? (i := 108) rfl) rfl
theorem mfl_X12_199 : Cond.fieldLink RX12 199 "FrontierDeskModel" "isDone" "[Z" ∈ uTb := mT6 (List.mem_of_getElem? (i := 109) rfl) rfl
theorem mfl_X12_240 : Cond.fieldLink RX12 240 "FrontierDeskModel" "isSupplied" "Z" ∈ uTb := mT6 (List.mem_of_getElem? (i := 110) rfl) rfl
theorem mfl_X12_202 : Cond.fieldLink RX12 202 "FrontierDeskModel" "ways" "[I" ∈ uTb := mT6 (List.mem_of_getElem? (i := 111) rfl) rfl
theorem mfl_X12_205 : Cond.fieldLink RX12 205 "FrontierDeskModel" "came" "[I" ∈ uTb := mT6 (List.mem_of_getElem? (i := 112) rfl) rfl
theorem mfl_X12_208 : Cond.fieldLink RX12 208 "FrontierDeskModel" "lacks" "[I" ∈ uTb := mT6 (List.mem_of_getElem? (i := 113) rfl) rfl
theorem mfl_X12_211 : Cond.fieldLink RX12 211 "FrontierDeskModel" "firstFrom" "[I" ∈ uTb := mT6 (List.mem_of_getElem? (i := 114) rfl) rfl
theorem mfl_X12_214 : Cond.fieldLink RX12 214 "FrontierDeskModel" "wasFound" "[Z" ∈ uTb := mT6 (List.mem_of_getElem? (i := 115) rfl) rfl
theorem mfl_X12_217 : Cond.fieldLink RX12 217 "FrontierDeskModel" "wasThere" "[Z" ∈ uTb := mT6 (List.mem_of_getElem? (i := 116) rfl) rfl
theorem mla_X12_0 : u_lay RX12 TX12 0 ∈ uTb := mT6 (List.mem_of_getElem? (i := 117) rfl) rfl
theorem mla_X12_1 : u_lay RX12 TX12 1 ∈ uTb := mT6 (List.mem_of_getElem? (i := 119) rfl) rfl
theorem mla_X12_2 : u_lay RX12 TX12 2 ∈ uTb := mT6 (List.mem_of_getElem? (i := 121) rfl) rfl
theorem mla_X12_3 : u_lay RX12 TX12 3 ∈ uTb := mT6 (List.mem_of_getElem? (i := 123) rfl) rfl
theorem mla_X12_4 : u_lay RX12 TX12 4 ∈ uTb := mT6 (List.mem_of_getElem? (i := 125) rfl) rfl
theorem mla_X12_5 : u_lay RX12 TX12 5 ∈ uTb := mT6 (List.mem_of_getElem? (i := 127) rfl) rfl
theorem mla_X12_6 : u_lay RX12 TX12 6 ∈ uTb := mT6 (List.mem_of_getElem? (i := 129) rfl) rfl
theorem mla_X12_7 : u_lay RX12 TX12 7 ∈ uTb := mT6 (List.mem_of_getElem? (i := 131) rfl) rfl
theorem mla_X12_8 : u_lay RX12 TX12 8 ∈ uTb := mT6 (List.mem_of_getElem? (i := 133) rfl) rfl
theorem mla_X12_9 : u_lay RX12 TX12 9 ∈ uTb := mT6 (List.mem_of_getElem? (i := 135) rfl) rfl
theorem mla_X12_10 : u_lay RX12 TX12 10 ∈ uTb := mT6 (List.mem_of_getElem? (i := 137) rfl) rfl
theorem mla_X12_11 : u_lay RX12 TX12 11 ∈ uTb := mT6 (List.mem_of_getElem? (i := 139) rfl) rfl
theorem mla_X12_12 : u_lay RX12 TX12 12 ∈ uTb := mT6 (List.mem_of_getElem? (i := 141) rfl) rfl
theorem mla_X12_13 : u_lay RX12 TX12 13 ∈ uTb := mT6 (List.mem_of_getElem? (i := 143) rfl) rfl
theorem mla_X12_14 : u_lay RX12 TX12 14 ∈ uTb := mT6 (List.mem_of_getElem? (i := 145) rfl) rfl
theorem mla_X12_15 : u_lay RX12 TX12 15 ∈ uTb := mT6 (List.mem_of_getElem? (i := 147) rfl) rfl
theorem mla_X12_16 : u_lay RX12 TX12 16 ∈ uTb := mT6 (List.mem_of_getElem? (i := 149) rfl) rfl
theorem mla_X12_17 : u_lay RX12 TX12 17 ∈ uTb := mT6 (List.mem_of_getElem? (i := 151) rfl) rfl
theorem mla_X12_18 : u_lay RX12 TX12 18 ∈ uTb := mT6 (List.mem_of_getElem? (i := 153) rfl) rfl
theorem mla_X12_19 : u_lay RX12 TX12 19 ∈ uTb := mT6 (List.mem_of_getElem? (i := 155) rfl) rfl
theorem mla_X12_20 : u_lay RX12 TX12 20 ∈ uTb := mT6 (List.mem_of_getElem? (i := 157) rfl) rfl
theorem mla_X12_21 : u_lay RX12 TX12 21 ∈ uTb := mT6 (List.mem_of_getElem? (i := 159) rfl) rfl
theorem mla_X12_22 : u_lay RX12 TX12 22 ∈ uTb := mT6 (List.mem_of_getElem? (i := 161) rfl) rfl
theorem mla_X12_23 : u_lay RX12 TX12 23 ∈ uTb := mT6 (List.mem_of_getElem? (i := 163) rfl) rfl
theorem mla_X12_24 : u_lay RX12 TX12 24 ∈ uTb := mT6 (List.mem_of_getElem? (i := 165) rfl) rfl
theorem mla_X12_25 : u_lay RX12 TX12 25 ∈ uTb := mT6 (List.mem_of_getElem? (i := 167) rfl) rfl
theorem mla_X12_26 : u_lay RX12 TX12 26 ∈ uTb := mT6 (List.mem_of_getElem? (i := 169) rfl) rfl
theorem mla_X12_27 : u_lay RX12 TX12 27 ∈ uTb := mT6 (List.mem_of_getElem? (i := 171) rfl) rfl
theorem mla_X12_28 : u_lay RX12 TX12 28 ∈ uTb := mT6 (List.mem_of_getElem? (i := 173) rfl) rfl
theorem mla_X12_29 : u_lay RX12 TX12 29 ∈ uTb := mT6 (List.mem_of_getElem? (i := 175) rfl) rfl
theorem mla_X12_30 : u_lay RX12 TX12 30 ∈ uTb := mT6 (List.mem_of_getElem? (i := 177) rfl) rfl
theorem mla_X12_31 : u_lay RX12 TX12 31 ∈ uTb := mT6 (List.mem_of_getElem? (i := 179) rfl) rfl
theorem mla_X12_32 : u_lay RX12 TX12 32 ∈ uTb := mT6 (List.mem_of_getElem? (i := 181) rfl) rfl
theorem mla_X12_33 : u_lay RX12 TX12 33 ∈ uTb := mT6 (List.mem_of_getElem? (i := 183) rfl) rfl
theorem mla_X12_34 : u_lay RX12 TX12 34 ∈ uTb := mT6 (List.mem_of_getElem? (i := 185) rfl) rfl
theorem mla_X12_35 : u_lay RX12 TX12 35 ∈ uTb := mT6 (List.mem_of_getElem? (i := 187) rfl) rfl
theorem mla_X12_36 : u_lay RX12 TX12 36 ∈ uTb := mT6 (List.mem_of_getElem? (i := 189) rfl) rfl
theorem mla_X12_37 : u_lay RX12 TX12 37 ∈ uTb := mT6 (List.mem_of_getElem? (i := 191) rfl) rfl
theorem mla_X12_38 : u_lay RX12 TX12 38 ∈ uTb := mT6 (List.mem_of_getElem? (i := 193) rfl) rfl
theorem mla_X12_39 : u_lay RX12 TX12 39 ∈ uTb := mT6 (List.mem_of_getElem? (i := 195) rfl) rfl
theorem mla_X12_40 : u_lay RX12 TX12 40 ∈ uTb := mT6 (List.mem_of_getElem? (i := 197) rfl) rfl
theorem mla_X12_41 : u_lay RX12 TX12 41 ∈ uTb := mT6 (List.mem_of_getElem? (i := 199) rfl) rfl
theorem mla_X12_42 : u_lay RX12 TX12 42 ∈ uTb := mT6 (List.mem_of_getElem? (i := 201) rfl) rfl
theorem mla_X12_43 : u_lay RX12 TX12 43 ∈ uTb := mT6 (List.mem_of_getElem? (i := 203) rfl) rfl
theorem mla_X12_44 : u_lay RX12 TX12 44 ∈ uTb := mT6 (List.mem_of_getElem? (i := 205) rfl) rfl
theorem mla_X12_45 : u_lay RX12 TX12 45 ∈ uTb := mT6 (List.mem_of_getElem? (i := 207) rfl) rfl
theorem mla_X12_46 : u_lay RX12 TX12 46 ∈ uTb := mT6 (List.mem_of_getElem? (i := 209) rfl) rfl
theorem mla_X12_47 : u_lay RX12 TX12 47 ∈ uTb := mT6 (List.mem_of_getElem? (i := 211) rfl) rfl
theorem mla_X12_48 : u_lay RX12 TX12 48 ∈ uTb := mT6 (List.mem_of_getElem? (i := 213) rfl) rfl
theorem mla_X12_49 : u_lay RX12 TX12 49 ∈ uTb := mT6 (List.mem_of_getElem? (i := 215) rfl) rfl
theorem mla_X12_50 : u_lay RX12 TX12 50 ∈ uTb := mT6 (List.mem_of_getElem? (i := 217) rfl) rfl
theorem mla_X12_51 : u_lay RX12 TX12 51 ∈ uTb := mT6 (List.mem_of_getElem? (i := 219) rfl) rfl
theorem mla_X12_52 : u_lay RX12 TX12 52 ∈ uTb := mT6 (List.mem_of_getElem? (i := 221) rfl) rfl
theorem mla_X12_53 : u_lay RX12 TX12 53 ∈ uTb := mT6 (List.mem_of_getElem? (i := 223) rfl) rfl
theorem mla_X12_54 : u_lay RX12 TX12 54 ∈ uTb := mT6 (List.mem_of_getElem? (i := 225) rfl) rfl
theorem mla_X12_55 : u_lay RX12 TX12 55 ∈ uTb := mT6 (List.mem_of_getElem? (i := 227) rfl) rfl
theorem mla_X12_56 : u_lay RX12 TX12 56 ∈ uTb := mT6 (List.mem_of_getElem? (i := 229) rfl) rfl
theorem mla_X12_57 : u_lay RX12 TX12 57 ∈ uTb := mT6 (List.mem_of_getElem? (i := 231) rfl) rfl
theorem mla_X12_58 : u_lay RX12 TX12 58 ∈ uTb := mT6 (List.mem_of_getElem? (i := 233) rfl) rfl
theorem mla_X12_59 : u_lay RX12 TX12 59 ∈ uTb := mT6 (List.mem_of_getElem? (i := 235) rfl) rfl
theorem mla_X12_60 : u_lay RX12 TX12 60 ∈ uTb := mT6 (List.mem_of_getElem? (i := 237) rfl) rfl
theorem mla_X12_61 : u_lay RX12 TX12 61 ∈ uTb := mT6 (List.mem_of_getElem? (i := 239) rfl) rfl
theorem mla_X12_62 : u_lay RX12 TX12 62 ∈ uTb := mT7 (List.mem_of_getElem? (i := 1) rfl) rfl
theorem mla_X12_63 : u_lay RX12 TX12 63 ∈ uTb := mT7 (List.mem_of_getElem? (i := 3) rfl) rfl
theorem mla_X12_64 : u_lay RX12 TX12 64 ∈ uTb := mT7 (List.mem_of_getElem? (i := 5) rfl) rfl
theorem mla_X12_65 : u_lay RX12 TX12 65 ∈ uTb := mT7 (List.mem_of_getElem? (i := 7) rfl) rfl
theorem mla_X12_66 : u_lay RX12 TX12 66 ∈ uTb := mT7 (List.mem_of_getElem? (i := 9) rfl) rfl
theorem mla_X12_67 : u_lay RX12 TX12 67 ∈ uTb := mT7 (List.mem_of_getElem? (i := 11) rfl) rfl
theorem mla_X12_68 : u_lay RX12 TX12 68 ∈ uTb := mT7 (List.mem_of_getElem? (i := 13) rfl) rfl
theorem mla_X12_69 : u_lay RX12 TX12 69 ∈ uTb := mT7 (List.mem_of_getElem? (i := 15) rfl) rfl
theorem mla_X12_70 : u_lay RX12 TX12 70 ∈ uTb := mT7 (List.mem_of_getElem? (i := 17) rfl) rfl
theorem mla_X12_71 : u_lay RX12 TX12 71 ∈ uTb := mT7 (List.mem_of_getElem? (i := 19) rfl) rfl
theorem mla_X12_72 : u_lay RX12 TX12 72 ∈ uTb := mT7 (List.mem_of_getElem? (i := 21) rfl) rfl
theorem mla_X12_73 : u_lay RX12 TX12 73 ∈ uTb := mT7 (List.mem_of_getElem? (i := 23) rfl) rfl
theorem mla_X12_74 : u_lay RX12 TX12 74 ∈ uTb := mT7 (List.mem_of_getElem? (i := 25) rfl) rfl
theorem mla_X12_75 : u_lay RX12 TX12 75 ∈ uTb := mT7 (List.mem_of_getElem? (i := 27) rfl) rfl
theorem mla_X12_76 : u_lay RX12 TX12 76 ∈ uTb := mT7 (List.mem_of_getElem? (i := 29) rfl) rfl
theorem mla_X12_77 : u_lay RX12 TX12 77 ∈ uTb := mT7 (List.mem_of_getElem? (i := 31) rfl) rfl
theorem mla_X12_78 : u_lay RX12 TX12 78 ∈ uTb := mT7 (List.mem_of_getElem? (i := 33) rfl) rfl
theorem mla_X12_79 : u_lay RX12 TX12 79 ∈ uTb := mT7 (List.mem_of_getElem? (i := 35) rfl) rfl
theorem mla_X12_80 : u_lay RX12 TX12 80 ∈ uTb := mT7 (List.mem_of_getElem? (i := 37) rfl) rfl
theorem mla_X12_81 : u_lay RX12 TX12 81 ∈ uTb := mT7 (List.mem_of_getElem? (i := 39) rfl) rfl
theorem mla_X12_82 : u_lay RX12 TX12 82 ∈ uTb := mT7 (List.mem_of_getElem? (i := 41) rfl) rfl
theorem mla_X12_83 : u_lay RX12 TX12 83 ∈ uTb := mT7 (List.mem_of_getElem? (i := 43) rfl) rfl
theorem mla_X12_84 : u_lay RX12 TX12 84 ∈ uTb := mT7 (List.mem_of_getElem? (i := 45) rfl) rfl
theorem mla_X12_85 : u_lay RX12 TX12 85 ∈ uTb := mT7 (List.mem_of_getElem? (i := 47) rfl) rfl
theorem mla_X12_86 : u_lay RX12 TX12 86 ∈ uTb := mT7 (List.mem_of_getElem? (i := 49) rfl) rfl
theorem mla_X12_87 : u_lay RX12 TX12 87 ∈ uTb := mT7 (List.mem_of_getElem? (i := 51) rfl) rfl
theorem mla_X12_88 : u_lay RX12 TX12 88 ∈ uTb := mT7 (List.mem_of_getElem? (i := 53) rfl) rfl
theorem mla_X12_89 : u_lay RX12 TX12 89 ∈ uTb := mT7 (List.mem_of_getElem? (i := 55) rfl) rfl
theorem mla_X12_90 : u_lay RX12 TX12 90 ∈ uTb := mT7 (List.mem_of_getElem? (i := 57) rfl) rfl
theorem mla_X12_91 : u_lay RX12 TX12 91 ∈ uTb := mT7 (List.mem_of_getElem? (i := 59) rfl) rfl
theorem mla_X12_92 : u_lay RX12 TX12 92 ∈ uTb := mT7 (List.mem_of_getElem? (i := 61) rfl) rfl
theorem mla_X12_93 : u_lay RX12 TX12 93 ∈ uTb := mT7 (List.mem_of_getElem? (i := 63) rfl) rfl
theorem mla_X12_94 : u_lay RX12 TX12 94 ∈ uTb := mT7 (List.mem_of_getElem? (i := 65) rfl) rfl
theorem mla_X12_95 : u_lay RX12 TX12 95 ∈ uTb := mT7 (List.mem_of_getElem? (i := 67) rfl) rfl
theorem mla_X12_96 : u_lay RX12 TX12 96 ∈ uTb := mT7 (List.mem_of_getElem? (i := 69) rfl) rfl
theorem mla_X12_97 : u_lay RX12 TX12 97 ∈ uTb := mT7 (List.mem_of_getElem? (i := 71) rfl) rfl
theorem mla_X12_98 : u_lay RX12 TX12 98 ∈ uTb := mT7 (List.mem_of_getElem? (i := 73) rfl) rfl
theorem mml_L_17 : Cond.methodLink RL 17 yX12_land ∈ uTb := mT7 (List.mem_of_getElem? (i := 76) rfl) rfl
theorem mim_X12_land : Cond.instanceMethod yX12_land ∈ uTb := mT7 (List.mem_of_getElem? (i := 77) rfl) rfl
theorem mse_X12_land : Cond.selects RX12 yX12_land yX12_land ∈ uTb := mT7 (List.mem_of_getElem? (i := 78) rfl) rfl
theorem mco_X12_land : Cond.code yX12_land cX12_land 4 (some .boolean) ∈ uTb := mT7 (List.mem_of_getElem? (i := 79) rfl) rfl
theorem mml_L_22 : Cond.methodLink RL 22 yX12_ground ∈ uTb := mT7 (List.mem_of_getElem? (i := 80) rfl) rfl
theorem mim_X12_ground : Cond.instanceMethod yX12_ground ∈ uTb := mT7 (List.mem_of_getElem? (i := 81) rfl) rfl
theorem mse_X12_ground : Cond.selects RX12 yX12_ground yX12_ground ∈ uTb := mT7 (List.mem_of_getElem? (i := 82) rfl) rfl
theorem mco_X12_ground : Cond.code yX12_ground cX12_ground 9 (some .boolean) ∈ uTb := mT7 (List.mem_of_getElem? (i := 83) rfl) rfl
theorem mml_L_27 : Cond.methodLink RL 27 yX12_trees ∈ uTb := mT7 (List.mem_of_getElem? (i := 84) rfl) rfl
theorem mim_X12_trees : Cond.instanceMethod yX12_trees ∈ uTb := mT7 (List.mem_of_getElem? (i := 85) rfl) rfl
theorem mse_X12_trees : Cond.selects RX12 yX12_trees yX12_trees ∈ uTb := mT7 (List.mem_of_getElem? (i := 86) rfl) rfl
theorem mco_X12_trees : Cond.code yX12_trees cX12_trees 4 (some .boolean) ∈ uTb := mT7 (List.mem_of_getElem? (i := 87) rfl) rfl
theorem mml_L_32 : Cond.methodLink RL 32 yX12_bend ∈ uTb := mT7 (List.mem_of_getElem? (i := 88) rfl) rfl
theorem mim_X12_bend : Cond.instanceMethod yX12_bend ∈ uTb := mT7 (List.mem_of_getElem? (i := 89) rfl) rfl
theorem mse_X12_bend : Cond.selects RX12 yX12_bend yX12_bend ∈ uTb := mT7 (List.mem_of_getElem? (i := 90) rfl) rfl
theorem mco_X12_bend : Cond.code yX12_bend cX12_bend 2 (some .boolean) ∈ uTb := mT7 (List.mem_of_getElem? (i := 91) rfl) rfl
theorem mml_L_37 : Cond.methodLink RL 37 yX12_haze ∈ uTb := mT7 (List.mem_of_getElem? (i := 92) rfl) rfl
theorem mim_X12_haze : Cond.instanceMethod yX12_haze ∈ uTb := mT7 (List.mem_of_getElem? (i := 93) rfl) rfl
theorem mse_X12_haze : Cond.selects RX12 yX12_haze yX12_haze ∈ uTb := mT7 (List.mem_of_getElem? (i := 94) rfl) rfl
theorem mco_X12_haze : Cond.code yX12_haze cX12_haze 5 (some .boolean) ∈ uTb := mT7 (List.mem_of_getElem? (i := 95) rfl) rfl
theorem mml_X12_246 : Cond.methodLink RX12 246 yX12_isTime ∈ uTb := mT7 (List.mem_of_getElem? (i := 96) rfl) rfl
theorem mst_X12_isTime : Cond.static yX12_isTime ∈ uTb := mT7 (List.mem_of_getElem? (i := 97) rfl) rfl
theorem mco_X12_isTime : Cond.code yX12_isTime cX12_isTime 2 (some .boolean) ∈ uTb := mT7 (List.mem_of_getElem? (i := 98) rfl) rfl
theorem mml_L_42 : Cond.methodLink RL 42 yX12_post ∈ uTb := mT7 (List.mem_of_getElem? (i := 99) rfl) rfl
theorem mim_X12_post : Cond.instanceMethod yX12_post ∈ uTb := mT7 (List.mem_of_getElem? (i := 100) rfl) rfl
theorem mse_X12_post : Cond.selects RX12 yX12_post yX12_post ∈ uTb := mT7 (List.mem_of_getElem? (i := 101) rfl) rfl
theorem mco_X12_post : Cond.code yX12_post cX12_post 8 (some .int) ∈ uTb := mT7 (List.mem_of_getElem? (i := 102) rfl) rfl
theorem mml_L_47 : Cond.methodLink RL 47 yX12_sight ∈ uTb := mT7 (List.mem_of_getElem? (i := 103) rfl) rfl
theorem mim_X12_sight : Cond.instanceMethod yX12_sight ∈ uTb := mT7 (List.mem_of_getElem? (i := 104) rfl) rfl
theorem mse_X12_sight : Cond.selects RX12 yX12_sight yX12_sight ∈ uTb := mT7 (List.mem_of_getElem? (i := 105) rfl) rfl
theorem mco_X12_sight : Cond.code yX12_sight cX12_sight 5 (some .int) ∈ uTb := mT7 (List.mem_of_getElem? (i := 106) rfl) rfl
theorem mml_X12_298 : Cond.methodLink RX12 298 yX12_areTwo ∈ uTb := mT7 (List.mem_of_getElem? (i := 107) rfl) rfl
theorem mim_X12_areTwo : Cond.instanceMethod yX12_areTwo ∈ uTb := mT7 (List.mem_of_getElem? (i := 109) rfl) rfl
theorem mco_X12_areTwo : Cond.code yX12_areTwo cX12_areTwo 3 (some .boolean) ∈ uTb := mT7 (List.mem_of_getElem? (i := 110) rfl) rfl
theorem mml_X12_295 : Cond.methodLink RX12 295 yX12_stands ∈ uTb := mT7 (List.mem_of_getElem? (i := 111) rfl) rfl
theorem mim_X12_stands : Cond.instanceMethod yX12_stands ∈ uTb := mT7 (List.mem_of_getElem? (i := 113) rfl) rfl
theorem mco_X12_stands : Cond.code yX12_stands cX12_stands 2 (some .boolean) ∈ uTb := mT7 (List.mem_of_getElem? (i := 114) rfl) rfl
theorem mml_X12_250 : Cond.methodLink RX12 250 yX12_isPost ∈ uTb := mT7 (List.mem_of_getElem? (i := 115) rfl) rfl
theorem mim_X12_isPost : Cond.instanceMethod yX12_isPost ∈ uTb := mT7 (List.mem_of_getElem? (i := 117) rfl) rfl
theorem mco_X12_isPost : Cond.code yX12_isPost cX12_isPost 2 (some .boolean) ∈ uTb := mT7 (List.mem_of_getElem? (i := 118) rfl) rfl
theorem mml_X12_301 : Cond.methodLink RX12 301 yX12_sightOf ∈ uTb := mT7 (List.mem_of_getElem? (i := 119) rfl) rfl
theorem mim_X12_sightOf : Cond.instanceMethod yX12_sightOf ∈ uTb := mT7 (List.mem_of_getElem? (i := 121) rfl) rfl
theorem mco_X12_sightOf : Cond.code yX12_sightOf cX12_sightOf 5 (some .int) ∈ uTb := mT7 (List.mem_of_getElem? (i := 122) rfl) rfl
theorem mml_X12_287 : Cond.methodLink RX12 287 yX12_isNear ∈ uTb := mT7 (List.mem_of_getElem? (i := 123) rfl) rfl
theorem mim_X12_isNear : Cond.instanceMethod yX12_isNear ∈ uTb := mT7 (List.mem_of_getElem? (i := 125) rfl) rfl
theorem mco_X12_isNear : Cond.code yX12_isNear cX12_isNear 6 (some .boolean) ∈ uTb := mT7 (List.mem_of_getElem? (i := 126) rfl) rfl
theorem mml_X12_291 : Cond.methodLink RX12 291 yX12_blockOf ∈ uTb := mT7 (List.mem_of_getElem? (i := 127) rfl) rfl
theorem mim_X12_blockOf : Cond.instanceMethod yX12_blockOf ∈ uTb := mT7 (List.mem_of_getElem? (i := 129) rfl) rfl
theorem mco_X12_blockOf : Cond.code yX12_blockOf cX12_blockOf 8 (some .int) ∈ uTb := mT7 (List.mem_of_getElem? (i := 130) rfl) rfl
theorem mml_X12_264 : Cond.methodLink RX12 264 yX12_spanOf ∈ uTb := mT7 (List.mem_of_getElem? (i := 131) rfl) rfl
theorem mim_X12_spanOf : Cond.instanceMethod yX12_spanOf ∈ uTb := mT7 (List.mem_of_getElem? (i := 133) rfl) rfl
theorem mco_X12_spanOf : Cond.code yX12_spanOf cX12_spanOf 3 (some .int) ∈ uTb := mT7 (List.mem_of_getElem? (i := 134) rfl) rfl
theorem mml_X12_254 : Cond.methodLink RX12 254 yJ9_abs_0f7a4 ∈ uTb := mT7 (List.mem_of_getElem? (i := 135) rfl) rfl
theorem mml_X12_260 : Cond.methodLink RX12 260 yJ9_max_7cf53 ∈ uTb := mT7 (List.mem_of_getElem? (i := 136) rfl) rfl
theorem mct_X12_277 : Cond.constantLong RX12 277 (1000) ∈ uTb := mT7 (List.mem_of_getElem? (i := 137) rfl) rfl
theorem mml_X12_279 : Cond.methodLink RX12 279 yX12_eye ∈ uTb := mT7 (List.mem_of_getElem? (i := 138) rfl) rfl
theorem mim_X12_eye : Cond.instanceMethod yX12_eye ∈ uTb := mT7 (List.mem_of_getElem? (i := 140) rfl) rfl
theorem mco_X12_eye : Cond.code yX12_eye cX12_eye 3 (some .int) ∈ uTb := mT7 (List.mem_of_getElem? (i := 141) rfl) rfl
theorem mml_X12_274 : Cond.methodLink RX12 274 yX12_cellOf ∈ uTb := mT7 (List.mem_of_getElem? (i := 142) rfl) rfl
theorem mim_X12_cellOf : Cond.instanceMethod yX12_cellOf ∈ uTb := mT7 (List.mem_of_getElem? (i := 144) rfl) rfl
theorem mco_X12_cellOf : Cond.code yX12_cellOf cX12_cellOf 2 (some .int) ∈ uTb := mT7 (List.mem_of_getElem? (i := 145) rfl) rfl
theorem mml_X12_283 : Cond.methodLink RX12 283 yX12_topAt ∈ uTb := mT7 (List.mem_of_getElem? (i := 146) rfl) rfl
theorem mim_X12_topAt : Cond.instanceMethod yX12_topAt ∈ uTb := mT7 (List.mem_of_getElem? (i := 148) rfl) rfl
theorem mco_X12_topAt : Cond.code yX12_topAt cX12_topAt 6 (some .int) ∈ uTb := mT7 (List.mem_of_getElem? (i := 149) rfl) rfl
theorem mml_X12_270 : Cond.methodLink RX12 270 yX12_cellAt ∈ uTb := mT7 (List.mem_of_getElem? (i := 150) rfl) rfl
theorem mim_X12_cellAt : Cond.instanceMethod yX12_cellAt ∈ uTb := mT7 (List.mem_of_getElem? (i := 152) rfl) rfl
theorem mco_X12_cellAt : Cond.code yX12_cellAt cX12_cellAt 7 (some .int) ∈ uTb := mT7 (List.mem_of_getElem? (i := 153) rfl) rfl
theorem mml_X12_267 : Cond.methodLink RX12 267 yX12_cut ∈ uTb := mT7 (List.mem_of_getElem? (i := 154) rfl) rfl
theorem mst_X12_cut : Cond.static yX12_cut ∈ uTb := mT7 (List.mem_of_getElem? (i := 155) rfl) rfl
theorem mco_X12_cut : Cond.code yX12_cut cX12_cut 3 (some .int) ∈ uTb := mT7 (List.mem_of_getElem? (i := 156) rfl) rfl
theorem mml_L_52 : Cond.methodLink RL 52 yX12_block ∈ uTb := mT7 (List.mem_of_getElem? (i := 157) rfl) rfl
theorem mim_X12_block : Cond.instanceMethod yX12_block ∈ uTb := mT7 (List.mem_of_getElem? (i := 158) rfl) rfl
theorem mse_X12_block : Cond.selects RX12 yX12_block yX12_block ∈ uTb := mT7 (List.mem_of_getElem? (i := 159) rfl) rfl
theorem mco_X12_block : Cond.code yX12_block cX12_block 4 (some .int) ∈ uTb := mT7 (List.mem_of_getElem? (i := 160) rfl) rfl
theorem mml_L_57 : Cond.methodLink RL 57 yX12_raise ∈ uTb := mT7 (List.mem_of_getElem? (i := 161) rfl) rfl
theorem mim_X12_raise : Cond.instanceMethod yX12_raise ∈ uTb := mT7 (List.mem_of_getElem? (i := 162) rfl) rfl
theorem mse_X12_raise : Cond.selects RX12 yX12_raise yX12_raise ∈ uTb := mT7 (List.mem_of_getElem? (i := 163) rfl) rfl
theorem mco_X12_raise : Cond.code yX12_raise cX12_raise 12 (some .int) ∈ uTb := mT7 (List.mem_of_getElem? (i := 164) rfl) rfl
theorem mml_X12_305 : Cond.methodLink RX12 305 yJ9_max_f86c9 ∈ uTb := mT7 (List.mem_of_getElem? (i := 165) rfl) rfl
theorem mst_J9_max_f86c9 : Cond.static yJ9_max_f86c9 ∈ uTb := mT7 (List.mem_of_getElem? (i := 166) rfl) rfl
theorem mco_J9_max_f86c9 : Cond.code yJ9_max_f86c9 cJ9_max_f86c9 4 (some .long) ∈ uTb := mT7 (List.mem_of_getElem? (i := 167) rfl) rfl
theorem mml_L_62 : Cond.methodLink RL 62 yX12_note ∈ uTb := mT7 (List.mem_of_getElem? (i := 168) rfl) rfl
theorem mim_X12_note : Cond.instanceMethod yX12_note ∈ uTb := mT7 (List.mem_of_getElem? (i := 169) rfl) rfl
theorem mse_X12_note : Cond.selects RX12 yX12_note yX12_note ∈ uTb := mT7 (List.mem_of_getElem? (i := 170) rfl) rfl
theorem mco_X12_note : Cond.code yX12_note cX12_note 5 (some .int) ∈ uTb := mT7 (List.mem_of_getElem? (i := 171) rfl) rfl
theorem mml_X12_311 : Cond.methodLink RX12 311 yX12_notes ∈ uTb := mT7 (List.mem_of_getElem? (i := 172) rfl) rfl
theorem mim_X12_notes : Cond.instanceMethod yX12_notes ∈ uTb := mT7 (List.mem_of_getElem? (i := 174) rfl) rfl
theorem mco_X12_notes : Cond.code yX12_notes cX12_notes 4 (some .int) ∈ uTb := mT7 (List.mem_of_getElem? (i := 175) rfl) rfl
theorem mml_L_67 : Cond.methodLink RL 67 yX12_strike ∈ uTb := mT7 (List.mem_of_getElem? (i := 176) rfl) rfl
theorem mim_X12_strike : Cond.instanceMethod yX12_strike ∈ uTb := mT7 (List.mem_of_getElem? (i := 177) rfl) rfl
theorem mse_X12_strike : Cond.selects RX12 yX12_strike yX12_strike ∈ uTb := mT7 (List.mem_of_getElem? (i := 178) rfl) rfl
theorem mco_X12_strike : Cond.code yX12_strike cX12_strike 2 (some .int) ∈ uTb := mT7 (List.mem_of_getElem? (i := 179) rfl) rfl
theorem mml_L_71 : Cond.methodLink RL 71 yX12_years ∈ uTb := mT7 (List.mem_of_getElem? (i := 180) rfl) rfl
theorem mim_X12_years : Cond.instanceMethod yX12_years ∈ uTb := mT7 (List.mem_of_getElem? (i := 181) rfl) rfl
theorem mse_X12_years : Cond.selects RX12 yX12_years yX12_years ∈ uTb := mT7 (List.mem_of_getElem? (i := 182) rfl) rfl
theorem mco_X12_years : Cond.code yX12_years cX12_years 4 (some .int) ∈ uTb := mT7 (List.mem_of_getElem? (i := 183) rfl) rfl
theorem mml_X12_326 : Cond.methodLink RX12 326 yX12_isKnown ∈ uTb := mT7 (List.mem_of_getElem? (i := 184) rfl) rfl
theorem mim_X12_isKnown : Cond.instanceMethod yX12_isKnown ∈ uTb := mT7 (List.mem_of_getElem? (i := 186) rfl) rfl
theorem mco_X12_isKnown : Cond.code yX12_isKnown cX12_isKnown 2 (some .boolean) ∈ uTb := mT7 (List.mem_of_getElem? (i := 187) rfl) rfl
theorem mml_X12_329 : Cond.methodLink RX12 329 yX12_knows ∈ uTb := mT7 (List.mem_of_getElem? (i := 188) rfl) rfl
theorem mim_X12_knows : Cond.instanceMethod yX12_knows ∈ uTb := mT7 (List.mem_of_getElem? (i := 190) rfl) rfl
theorem mco_X12_knows : Cond.code yX12_knows cX12_knows 4 (some .boolean) ∈ uTb := mT7 (List.mem_of_getElem? (i := 191) rfl) rfl
theorem mml_X12_313 : Cond.methodLink RX12 313 yX12_bounds ∈ uTb := mT7 (List.mem_of_getElem? (i := 192) rfl) rfl
theorem mim_X12_bounds : Cond.instanceMethod yX12_bounds ∈ uTb := mT7 (List.mem_of_getElem? (i := 194) rfl) rfl
theorem mco_X12_bounds : Cond.code yX12_bounds cX12_bounds 4 none ∈ uTb := mT7 (List.mem_of_getElem? (i := 195) rfl) rfl
theorem mml_X12_308 : Cond.methodLink RX12 308 yJ9_min_7cf53 ∈ uTb := mT7 (List.mem_of_getElem? (i := 196) rfl) rfl
theorem mml_X12_320 : Cond.methodLink RX12 320 yX12_ahead ∈ uTb := mT7 (List.mem_of_getElem? (i := 197) rfl) rfl
theorem mim_X12_ahead : Cond.instanceMethod yX12_ahead ∈ uTb := mT7 (List.mem_of_getElem? (i := 199) rfl) rfl
theorem mco_X12_ahead : Cond.code yX12_ahead cX12_ahead 3 none ∈ uTb := mT7 (List.mem_of_getElem? (i := 200) rfl) rfl
theorem mml_X12_324 : Cond.methodLink RX12 324 yX12_orders ∈ uTb := mT7 (List.mem_of_getElem? (i := 201) rfl) rfl
theorem mim_X12_orders : Cond.instanceMethod yX12_orders ∈ uTb := mT7 (List.mem_of_getElem? (i := 203) rfl) rfl
theorem mco_X12_orders : Cond.code yX12_orders cX12_orders 4 none ∈ uTb := mT7 (List.mem_of_getElem? (i := 204) rfl) rfl
theorem mml_L_76 : Cond.methodLink RL 76 yX12_quarrel ∈ uTb := mT7 (List.mem_of_getElem? (i := 205) rfl) rfl
theorem mim_X12_quarrel : Cond.instanceMethod yX12_quarrel ∈ uTb := mT7 (List.mem_of_getElem? (i := 206) rfl) rfl
theorem mse_X12_quarrel : Cond.selects RX12 yX12_quarrel yX12_quarrel ∈ uTb := mT7 (List.mem_of_getElem? (i := 207) rfl) rfl
theorem mco_X12_quarrel : Cond.code yX12_quarrel cX12_quarrel 2 (some .int) ∈ uTb := mT7 (List.mem_of_getElem? (i := 208) rfl) rfl
theorem mml_L_80 : Cond.methodLink RL 80 yX12_stood ∈ uTb := mT7 (List.mem_of_getElem? (i := 209) rfl) rfl
theorem mim_X12_stood : Cond.instanceMethod yX12_stood ∈ uTb := mT7 (List.mem_of_getElem? (i := 210) rfl) rfl
theorem mse_X12_stood : Cond.selects RX12 yX12_stood yX12_stood ∈ uTb := mT7 (List.mem_of_getElem? (i := 211) rfl) rfl
theorem mco_X12_stood : Cond.code yX12_stood cX12_stood 4 (some .int) ∈ uTb := mT7 (List.mem_of_getElem? (i := 212) rfl) rfl
theorem mml_X12_332 : Cond.methodLink RX12 332 yX12_stoodIn ∈ uTb := mT7 (List.mem_of_getElem? (i := 213) rfl) rfl
theorem mim_X12_stoodIn : Cond.instanceMethod yX12_stoodIn ∈ uTb := mT7 (List.mem_of_getElem? (i := 215) rfl) rfl
theorem mco_X12_stoodIn : Cond.code yX12_stoodIn cX12_stoodIn 3 (some .int) ∈ uTb := mT7 (List.mem_of_getElem? (i := 216) rfl) rfl
theorem mml_L_84 : Cond.methodLink RL 84 yX12_groups ∈ uTb := mT7 (List.mem_of_getElem? (i := 217) rfl) rfl
theorem mim_X12_groups : Cond.instanceMethod yX12_groups ∈ uTb := mT7 (List.mem_of_getElem? (i := 218) rfl) rfl
theorem mse_X12_groups : Cond.selects RX12 yX12_groups yX12_groups ∈ uTb := mT7 (List.mem_of_getElem? (i := 219) rfl) rfl
theorem mco_X12_groups : Cond.code yX12_groups cX12_groups 5 (some .int) ∈ uTb := mT7 (List.mem_of_getElem? (i := 220) rfl) rfl
theorem mml_X12_347 : Cond.methodLink RX12 347 yX12_isAsked ∈ uTb := mT7 (List.mem_of_getElem? (i := 221) rfl) rfl
theorem mst_X12_isAsked : Cond.static yX12_isAsked ∈ uTb := mT7 (List.mem_of_getElem? (i := 222) rfl) rfl
theorem mco_X12_isAsked : Cond.code yX12_isAsked cX12_isAsked 3 (some .boolean) ∈ uTb := mT7 (List.mem_of_getElem? (i := 223) rfl) rfl
theorem mml_X12_350 : Cond.methodLink RX12 350 yX12_isLevel ∈ uTb := mT7 (List.mem_of_getElem? (i := 224) rfl) rfl
theorem mst_X12_isLevel : Cond.static yX12_isLevel ∈ uTb := mT7 (List.mem_of_getElem? (i := 225) rfl) rfl
theorem mco_X12_isLevel : Cond.code yX12_isLevel cX12_isLevel 1 (some .boolean) ∈ uTb := mT7 (List.mem_of_getElem? (i := 226) rfl) rfl
theorem mml_X12_353 : Cond.methodLink RX12 353 yX12_lines ∈ uTb := mT7 (List.mem_of_getElem? (i := 227) rfl) rfl
theorem mim_X12_lines : Cond.instanceMethod yX12_lines ∈ uTb := mT7 (List.mem_of_getElem? (i := 229) rfl) rfl
theorem mco_X12_lines : Cond.code yX12_lines cX12_lines 9 none ∈ uTb := mT7 (List.mem_of_getElem? (i := 230) rfl) rfl
theorem mml_X12_341 : Cond.methodLink RX12 341 yX12_linkOf ∈ uTb := mT7 (List.mem_of_getElem? (i := 231) rfl) rfl
theorem mim_X12_linkOf : Cond.instanceMethod yX12_linkOf ∈ uTb := mT7 (List.mem_of_getElem? (i := 233) rfl) rfl
theorem mco_X12_linkOf : Cond.code yX12_linkOf cX12_linkOf 5 (some .int) ∈ uTb := mT7 (List.mem_of_getElem? (i := 234) rfl) rfl
theorem mml_X12_357 : Cond.methodLink RX12 357 yX12_groupsOf ∈ uTb := mT7 (List.mem_of_getElem? (i := 235) rfl) rfl
theorem mim_X12_groupsOf : Cond.instanceMethod yX12_groupsOf ∈ uTb := mT7 (List.mem_of_getElem? (i := 237) rfl) rfl
theorem mco_X12_groupsOf : Cond.code yX12_groupsOf cX12_groupsOf 5 (some .int) ∈ uTb := mT7 (List.mem_of_getElem? (i := 238) rfl) rfl
theorem mml_X12_344 : Cond.methodLink RX12 344 yX12_reached ∈ uTb := mT7 (List.mem_of_getElem? (i := 239) rfl) rfl
theorem mim_X12_reached : Cond.instanceMethod yX12_reached ∈ uTb := mT8 (List.mem_of_getElem? (i := 1) rfl) rfl
theorem mco_X12_reached : Cond.code yX12_reached cX12_reached 6 (some .int) ∈ uTb := mT8 (List.mem_of_getElem? (i := 2) rfl) rfl
theorem mml_L_88 : Cond.methodLink RL 88 yX12_cuts ∈ uTb := mT8 (List.mem_of_getElem? (i := 3) rfl) rfl
theorem mim_X12_cuts : Cond.instanceMethod yX12_cuts ∈ uTb := mT8 (List.mem_of_getElem? (i := 4) rfl) rfl
theorem mse_X12_cuts : Cond.selects RX12 yX12_cuts yX12_cuts ∈ uTb := mT8 (List.mem_of_getElem? (i := 5) rfl) rfl
theorem mco_X12_cuts : Cond.code yX12_cuts cX12_cuts 8 (some .int) ∈ uTb := mT8 (List.mem_of_getElem? (i := 6) rfl) rfl
theorem mml_L_92 : Cond.methodLink RL 92 yX12_join ∈ uTb := mT8 (List.mem_of_getElem? (i := 7) rfl) rfl
theorem mim_X12_join : Cond.instanceMethod yX12_join ∈ uTb := mT8 (List.mem_of_getElem? (i := 8) rfl) rfl
theorem mse_X12_join : Cond.selects RX12 yX12_join yX12_join ∈ uTb := mT8 (List.mem_of_getElem? (i := 9) rfl) rfl
theorem mco_X12_join : Cond.code yX12_join cX12_join 7 (some .int) ∈ uTb := mT8 (List.mem_of_getElem? (i := 10) rfl) rfl
theorem mml_X12_360 : Cond.methodLink RX12 360 yX12_many ∈ uTb := mT8 (List.mem_of_getElem? (i := 11) rfl) rfl
theorem mst_X12_many : Cond.static yX12_many ∈ uTb := mT8 (List.mem_of_getElem? (i := 12) rfl) rfl
theorem mco_X12_many : Cond.code yX12_many cX12_many 3 (some .int) ∈ uTb := mT8 (List.mem_of_getElem? (i := 13) rfl) rfl
theorem mml_X12_363 : Cond.methodLink RX12 363 yX12_joins ∈ uTb := mT8 (List.mem_of_getElem? (i := 14) rfl) rfl
theorem mim_X12_joins : Cond.instanceMethod yX12_joins ∈ uTb := mT8 (List.mem_of_getElem? (i := 16) rfl) rfl
theorem mco_X12_joins : Cond.code yX12_joins cX12_joins 3 (some .boolean) ∈ uTb := mT8 (List.mem_of_getElem? (i := 17) rfl) rfl
theorem mml_L_96 : Cond.methodLink RL 96 yX12_joined ∈ uTb := mT8 (List.mem_of_getElem? (i := 18) rfl) rfl
theorem mim_X12_joined : Cond.instanceMethod yX12_joined ∈ uTb := mT8 (List.mem_of_getElem? (i := 19) rfl) rfl
theorem mse_X12_joined : Cond.selects RX12 yX12_joined yX12_joined ∈ uTb := mT8 (List.mem_of_getElem? (i := 20) rfl) rfl
theorem mco_X12_joined : Cond.code yX12_joined cX12_joined 3 (some .int) ∈ uTb := mT8 (List.mem_of_getElem? (i := 21) rfl) rfl
theorem mml_X12_372 : Cond.methodLink RX12 372 yX12_shareOf ∈ uTb := mT8 (List.mem_of_getElem? (i := 22) rfl) rfl
theorem mim_X12_shareOf : Cond.instanceMethod yX12_shareOf ∈ uTb := mT8 (List.mem_of_getElem? (i := 24) rfl) rfl
theorem mco_X12_shareOf : Cond.code yX12_shareOf cX12_shareOf 4 (some .int) ∈ uTb := mT8 (List.mem_of_getElem? (i := 25) rfl) rfl
theorem mml_L_100 : Cond.methodLink RL 100 yX12_dig ∈ uTb := mT8 (List.mem_of_getElem? (i := 26) rfl) rfl
theorem mim_X12_dig : Cond.instanceMethod yX12_dig ∈ uTb := mT8 (List.mem_of_getElem? (i := 27) rfl) rfl
theorem mse_X12_dig : Cond.selects RX12 yX12_dig yX12_dig ∈ uTb := mT8 (List.mem_of_getElem? (i := 28) rfl) rfl
theorem mco_X12_dig : Cond.code yX12_dig cX12_dig 6 (some .int) ∈ uTb := mT8 (List.mem_of_getElem? (i := 29) rfl) rfl
theorem mml_X12_375 : Cond.methodLink RX12 375 yX12_wasSupposed ∈ uTb := mT8 (List.mem_of_getElem? (i := 30) rfl) rfl
theorem mim_X12_wasSupposed : Cond.instanceMethod yX12_wasSupposed ∈ uTb := mT8 (List.mem_of_getElem? (i := 32) rfl) rfl
theorem mco_X12_wasSupposed : Cond.code yX12_wasSupposed cX12_wasSupposed 2 (some .boolean) ∈ uTb := mT8 (List.mem_of_getElem? (i := 33) rfl) rfl
theorem mml_L_105 : Cond.methodLink RL 105 yX12_dug ∈ uTb := mT8 (List.mem_of_getElem? (i := 34) rfl) rfl
theorem mim_X12_dug : Cond.instanceMethod yX12_dug ∈ uTb := mT8 (List.mem_of_getElem? (i := 35) rfl) rfl
theorem mse_X12_dug : Cond.selects RX12 yX12_dug yX12_dug ∈ uTb := mT8 (List.mem_of_getElem? (i := 36) rfl) rfl
theorem mco_X12_dug : Cond.code yX12_dug cX12_dug 3 (some .boolean) ∈ uTb := mT8 (List.mem_of_getElem? (i := 37) rfl) rfl
theorem mml_L_110 : Cond.methodLink RL 110 yX12_feed ∈ uTb := mT8 (List.mem_of_getElem? (i := 38) rfl) rfl
theorem mim_X12_feed : Cond.instanceMethod yX12_feed ∈ uTb := mT8 (List.mem_of_getElem? (i := 39) rfl) rfl
theorem mse_X12_feed : Cond.selects RX12 yX12_feed yX12_feed ∈ uTb := mT8 (List.mem_of_getElem? (i := 40) rfl) rfl
theorem mco_X12_feed : Cond.code yX12_feed cX12_feed 8 (some .int) ∈ uTb := mT8 (List.mem_of_getElem? (i := 41) rfl) rfl
theorem mml_L_114 : Cond.methodLink RL 114 yX12_rules ∈ uTb := mT8 (List.mem_of_getElem? (i := 42) rfl) rfl
theorem mim_X12_rules : Cond.instanceMethod yX12_rules ∈ uTb := mT8 (List.mem_of_getElem? (i := 43) rfl) rfl
theorem mse_X12_rules : Cond.selects RX12 yX12_rules yX12_rules ∈ uTb := mT8 (List.mem_of_getElem? (i := 44) rfl) rfl
theorem mco_X12_rules : Cond.code yX12_rules cX12_rules 2 (some .int) ∈ uTb := mT8 (List.mem_of_getElem? (i := 45) rfl) rfl
theorem mml_X12_440 : Cond.methodLink RX12 440 yX12_next ∈ uTb := mT8 (List.mem_of_getElem? (i := 46) rfl) rfl
theorem mim_X12_next : Cond.instanceMethod yX12_next ∈ uTb := mT8 (List.mem_of_getElem? (i := 48) rfl) rfl
theorem mco_X12_next : Cond.code yX12_next cX12_next 2 none ∈ uTb := mT8 (List.mem_of_getElem? (i := 49) rfl) rfl
theorem mml_X12_387 : Cond.methodLink RX12 387 yX12_here ∈ uTb := mT8 (List.mem_of_getElem? (i := 50) rfl) rfl
theorem mim_X12_here : Cond.instanceMethod yX12_here ∈ uTb := mT8 (List.mem_of_getElem? (i := 52) rfl) rfl
theorem mco_X12_here : Cond.code yX12_here cX12_here 1 (some .int) ∈ uTb := mT8 (List.mem_of_getElem? (i := 53) rfl) rfl
theorem mml_X12_397 : Cond.methodLink RX12 397 yX12_isSmall ∈ uTb := mT8 (List.mem_of_getElem? (i := 54) rfl) rfl
theorem mst_X12_isSmall : Cond.static yX12_isSmall ∈ uTb := mT8 (List.mem_of_getElem? (i := 55) rfl) rfl
theorem mco_X12_isSmall : Cond.code yX12_isSmall cX12_isSmall 1 (some .boolean) ∈ uTb := mT8 (List.mem_of_getElem? (i := 56) rfl) rfl
theorem mct_X12_404 : Cond.constantLong RX12 404 (27) ∈ uTb := mT8 (List.mem_of_getElem? (i := 57) rfl) rfl
theorem mct_X12_406 : Cond.constantLong RX12 406 (97) ∈ uTb := mT8 (List.mem_of_getElem? (i := 58) rfl) rfl
theorem mml_X12_408 : Cond.methodLink RX12 408 yX12_reserved ∈ uTb := mT8 (List.mem_of_getElem? (i := 59) rfl) rfl
theorem mim_X12_reserved : Cond.instanceMethod yX12_reserved ∈ uTb := mT8 (List.mem_of_getElem? (i := 61) rfl) rfl
theorem mco_X12_reserved : Cond.code yX12_reserved cX12_reserved 4 (some .int) ∈ uTb := mT8 (List.mem_of_getElem? (i := 62) rfl) rfl
theorem mml_X12_419 : Cond.methodLink RX12 419 yJ0_length_8abf5 ∈ uTb := mT8 (List.mem_of_getElem? (i := 64) rfl) rfl
theorem mml_X12_424 : Cond.methodLink RX12 424 yJ0_charAt_5068e ∈ uTb := mT8 (List.mem_of_getElem? (i := 65) rfl) rfl
theorem mml_X12_414 : Cond.methodLink RX12 414 yX12_isDigit ∈ uTb := mT8 (List.mem_of_getElem? (i := 66) rfl) rfl
theorem mst_X12_isDigit : Cond.static yX12_isDigit ∈ uTb := mT8 (List.mem_of_getElem? (i := 67) rfl) rfl
theorem mco_X12_isDigit : Cond.code yX12_isDigit cX12_isDigit 1 (some .boolean) ∈ uTb := mT8 (List.mem_of_getElem? (i := 68) rfl) rfl
theorem mml_X12_477 : Cond.methodLink RX12 477 yX12_line ∈ uTb := mT8 (List.mem_of_getElem? (i := 69) rfl) rfl
theorem mim_X12_line : Cond.instanceMethod yX12_line ∈ uTb := mT8 (List.mem_of_getElem? (i := 71) rfl) rfl
theorem mco_X12_line : Cond.code yX12_line cX12_line 2 none ∈ uTb := mT8 (List.mem_of_getElem? (i := 72) rfl) rfl
theorem mml_X12_437 : Cond.methodLink RX12 437 yX12_wrong ∈ uTb := mT8 (List.mem_of_getElem? (i := 73) rfl) rfl
theorem mim_X12_wrong : Cond.instanceMethod yX12_wrong ∈ uTb := mT8 (List.mem_of_getElem? (i := 75) rfl) rfl
theorem mco_X12_wrong : Cond.code yX12_wrong cX12_wrong 2 none ∈ uTb := mT8 (List.mem_of_getElem? (i := 76) rfl) rfl
theorem mml_X12_434 : Cond.methodLink RX12 434 yX12_wrongAt ∈ uTb := mT8 (List.mem_of_getElem? (i := 77) rfl) rfl
theorem mim_X12_wrongAt : Cond.instanceMethod yX12_wrongAt ∈ uTb := mT8 (List.mem_of_getElem? (i := 79) rfl) rfl
theorem mco_X12_wrongAt : Cond.code yX12_wrongAt cX12_wrongAt 3 none ∈ uTb := mT8 (List.mem_of_getElem? (i := 80) rfl) rfl
theorem mml_X12_452 : Cond.methodLink RX12 452 yX12_word ∈ uTb := mT8 (List.mem_of_getElem? (i := 81) rfl) rfl
theorem mim_X12_word : Cond.instanceMethod yX12_word ∈ uTb := mT8 (List.mem_of_getElem? (i := 83) rfl) rfl
theorem mco_X12_word : Cond.code yX12_word cX12_word 4 none ∈ uTb := mT8 (List.mem_of_getElem? (i := 84) rfl) rfl
theorem mml_X12_461 : Cond.methodLink RX12 461 yX12_wordOf ∈ uTb := mT8 (List.mem_of_getElem? (i := 85) rfl) rfl
theorem mim_X12_wordOf : Cond.instanceMethod yX12_wordOf ∈ uTb := mT8 (List.mem_of_getElem? (i := 87) rfl) rfl
theorem mco_X12_wordOf : Cond.code yX12_wordOf cX12_wordOf 6 (some .int) ∈ uTb := mT8 (List.mem_of_getElem? (i := 88) rfl) rfl
theorem mml_X12_465 : Cond.methodLink RX12 465 yX12_name ∈ uTb := mT8 (List.mem_of_getElem? (i := 89) rfl) rfl
theorem mim_X12_name : Cond.instanceMethod yX12_name ∈ uTb := mT8 (List.mem_of_getElem? (i := 91) rfl) rfl
theorem mco_X12_name : Cond.code yX12_name cX12_name 3 (some .long) ∈ uTb := mT8 (List.mem_of_getElem? (i := 92) rfl) rfl
theorem mml_X12_455 : Cond.methodLink RX12 455 yX12_number ∈ uTb := mT8 (List.mem_of_getElem? (i := 93) rfl) rfl
theorem mim_X12_number : Cond.instanceMethod yX12_number ∈ uTb := mT8 (List.mem_of_getElem? (i := 95) rfl) rfl
theorem mco_X12_number : Cond.code yX12_number cX12_number 4 (some .int) ∈ uTb := mT8 (List.mem_of_getElem? (i := 96) rfl) rfl
theorem mml_X12_468 : Cond.methodLink RX12 468 yX12_areSame ∈ uTb := mT8 (List.mem_of_getElem? (i := 97) rfl) rfl
theorem mim_X12_areSame : Cond.instanceMethod yX12_areSame ∈ uTb := mT8 (List.mem_of_getElem? (i := 99) rfl) rfl
theorem mco_X12_areSame : Cond.code yX12_areSame cX12_areSame 4 (some .boolean) ∈ uTb := mT8 (List.mem_of_getElem? (i := 100) rfl) rfl
theorem mml_X12_458 : Cond.methodLink RX12 458 yX12_order ∈ uTb := mT8 (List.mem_of_getElem? (i := 101) rfl) rfl
theorem mim_X12_order : Cond.instanceMethod yX12_order ∈ uTb := mT8 (List.mem_of_getElem? (i := 103) rfl) rfl
theorem mco_X12_order : Cond.code yX12_order cX12_order 3 none ∈ uTb := mT8 (List.mem_of_getElem? (i := 104) rfl) rfl
theorem mml_X12_443 : Cond.methodLink RX12 443 yX12_isReserved ∈ uTb := mT8 (List.mem_of_getElem? (i := 105) rfl) rfl
theorem mim_X12_isReserved : Cond.instanceMethod yX12_isReserved ∈ uTb := mT8 (List.mem_of_getElem? (i := 107) rfl) rfl
theorem mco_X12_isReserved : Cond.code yX12_isReserved cX12_isReserved 2 (some .boolean) ∈ uTb := mT8 (List.mem_of_getElem? (i := 108) rfl) rfl
theorem mml_X12_471 : Cond.methodLink RX12 471 yX12_wants ∈ uTb := mT8 (List.mem_of_getElem? (i := 109) rfl) rfl
theorem mim_X12_wants : Cond.instanceMethod yX12_wants ∈ uTb := mT8 (List.mem_of_getElem? (i := 111) rfl) rfl
theorem mco_X12_wants : Cond.code yX12_wants cX12_wants 2 none ∈ uTb := mT8 (List.mem_of_getElem? (i := 112) rfl) rfl
theorem mml_X12_474 : Cond.methodLink RX12 474 yX12_act ∈ uTb := mT8 (List.mem_of_getElem? (i := 113) rfl) rfl
theorem mim_X12_act : Cond.instanceMethod yX12_act ∈ uTb := mT8 (List.mem_of_getElem? (i := 115) rfl) rfl
theorem mco_X12_act : Cond.code yX12_act cX12_act 4 none ∈ uTb := mT8 (List.mem_of_getElem? (i := 116) rfl) rfl
theorem mml_X12_480 : Cond.methodLink RX12 480 yX12_resolves ∈ uTb := mT8 (List.mem_of_getElem? (i := 117) rfl) rfl
theorem mim_X12_resolves : Cond.instanceMethod yX12_resolves ∈ uTb := mT8 (List.mem_of_getElem? (i := 119) rfl) rfl
theorem mco_X12_resolves : Cond.code yX12_resolves cX12_resolves 4 none ∈ uTb := mT8 (List.mem_of_getElem? (i := 120) rfl) rfl
theorem mml_X12_486 : Cond.methodLink RX12 486 yX12_takes ∈ uTb := mT8 (List.mem_of_getElem? (i := 121) rfl) rfl
theorem mim_X12_takes : Cond.instanceMethod yX12_takes ∈ uTb := mT8 (List.mem_of_getElem? (i := 123) rfl) rfl
theorem mco_X12_takes : Cond.code yX12_takes cX12_takes 4 none ∈ uTb := mT8 (List.mem_of_getElem? (i := 124) rfl) rfl
theorem mml_L_118 : Cond.methodLink RL 118 yX12_fault ∈ uTb := mT8 (List.mem_of_getElem? (i := 125) rfl) rfl
theorem mim_X12_fault : Cond.instanceMethod yX12_fault ∈ uTb := mT8 (List.mem_of_getElem? (i := 126) rfl) rfl
theorem mse_X12_fault : Cond.selects RX12 yX12_fault yX12_fault ∈ uTb := mT8 (List.mem_of_getElem? (i := 127) rfl) rfl
theorem mco_X12_fault : Cond.code yX12_fault cX12_fault 2 (some .int) ∈ uTb := mT8 (List.mem_of_getElem? (i := 128) rfl) rfl
theorem mml_L_122 : Cond.methodLink RL 122 yX12_send ∈ uTb := mT8 (List.mem_of_getElem? (i := 129) rfl) rfl
theorem mim_X12_send : Cond.instanceMethod yX12_send ∈ uTb := mT8 (List.mem_of_getElem? (i := 130) rfl) rfl
theorem mse_X12_send : Cond.selects RX12 yX12_send yX12_send ∈ uTb := mT8 (List.mem_of_getElem? (i := 131) rfl) rfl
theorem mco_X12_send : Cond.code yX12_send cX12_send 8 (some .int) ∈ uTb := mT8 (List.mem_of_getElem? (i := 132) rfl) rfl
theorem mml_X12_526 : Cond.methodLink RX12 526 yX12_hears ∈ uTb := mT8 (List.mem_of_getElem? (i := 133) rfl) rfl
theorem mim_X12_hears : Cond.instanceMethod yX12_hears ∈ uTb := mT8 (List.mem_of_getElem? (i := 135) rfl) rfl
theorem mco_X12_hears : Cond.code yX12_hears cX12_hears 8 none ∈ uTb := mT8 (List.mem_of_getElem? (i := 136) rfl) rfl
theorem mml_X12_501 : Cond.methodLink RX12 501 yX12_isDue ∈ uTb := mT8 (List.mem_of_getElem? (i := 137) rfl) rfl
theorem mim_X12_isDue : Cond.instanceMethod yX12_isDue ∈ uTb := mT8 (List.mem_of_getElem? (i := 139) rfl) rfl
theorem mco_X12_isDue : Cond.code yX12_isDue cX12_isDue 4 (some .boolean) ∈ uTb := mT8 (List.mem_of_getElem? (i := 140) rfl) rfl
theorem mml_X12_504 : Cond.methodLink RX12 504 yX12_does ∈ uTb := mT8 (List.mem_of_getElem? (i := 141) rfl) rfl
theorem mim_X12_does : Cond.instanceMethod yX12_does ∈ uTb := mT8 (List.mem_of_getElem? (i := 143) rfl) rfl
theorem mco_X12_does : Cond.code yX12_does cX12_does 9 none ∈ uTb := mT8 (List.mem_of_getElem? (i := 144) rfl) rfl
theorem mml_X12_511 : Cond.methodLink RX12 511 yX12_sends ∈ uTb := mT8 (List.mem_of_getElem? (i := 145) rfl) rfl
theorem mim_X12_sends : Cond.instanceMethod yX12_sends ∈ uTb := mT8 (List.mem_of_getElem? (i := 147) rfl) rfl
theorem mco_X12_sends : Cond.code yX12_sends cX12_sends 8 none ∈ uTb := mT8 (List.mem_of_getElem? (i := 148) rfl) rfl
theorem mml_X12_498 : Cond.methodLink RX12 498 yX12_puts ∈ uTb := mT8 (List.mem_of_getElem? (i := 149) rfl) rfl
theorem mim_X12_puts : Cond.instanceMethod yX12_puts ∈ uTb := mT8 (List.mem_of_getElem? (i := 151) rfl) rfl
theorem mco_X12_puts : Cond.code yX12_puts cX12_puts 5 none ∈ uTb := mT8 (List.mem_of_getElem? (i := 152) rfl) rfl
theorem mml_X12_529 : Cond.methodLink RX12 529 yX12_nextSeen ∈ uTb := mT8 (List.mem_of_getElem? (i := 153) rfl) rfl
theorem mim_X12_nextSeen : Cond.instanceMethod yX12_nextSeen ∈ uTb := mT8 (List.mem_of_getElem? (i := 155) rfl) rfl
theorem mco_X12_nextSeen : Cond.code yX12_nextSeen cX12_nextSeen 3 (some .int) ∈ uTb := mT8 (List.mem_of_getElem? (i := 156) rfl) rfl
theorem mml_X12_532 : Cond.methodLink RX12 532 yX12_looks ∈ uTb := mT8 (List.mem_of_getElem? (i := 157) rfl) rfl
theorem mim_X12_looks : Cond.instanceMethod yX12_looks ∈ uTb := mT8 (List.mem_of_getElem? (i := 159) rfl) rfl
theorem mco_X12_looks : Cond.code yX12_looks cX12_looks 4 none ∈ uTb := mT8 (List.mem_of_getElem? (i := 160) rfl) rfl
theorem mml_X12_517 : Cond.methodLink RX12 517 yX12_readAs ∈ uTb := mT8 (List.mem_of_getElem? (i := 161) rfl) rfl
theorem mim_X12_readAs : Cond.instanceMethod yX12_readAs ∈ uTb := mT8 (List.mem_of_getElem? (i := 163) rfl) rfl
theorem mco_X12_readAs : Cond.code yX12_readAs cX12_readAs 3 (some .int) ∈ uTb := mT8 (List.mem_of_getElem? (i := 164) rfl) rfl
theorem mml_X12_489 : Cond.methodLink RX12 489 yX12_isDim ∈ uTb := mT8 (List.mem_of_getElem? (i := 165) rfl) rfl
theorem mim_X12_isDim : Cond.instanceMethod yX12_isDim ∈ uTb := mT8 (List.mem_of_getElem? (i := 167) rfl) rfl
theorem mco_X12_isDim : Cond.code yX12_isDim cX12_isDim 4 (some .boolean) ∈ uTb := mT8 (List.mem_of_getElem? (i := 168) rfl) rfl
theorem mml_X12_535 : Cond.methodLink RX12 535 yX12_heardPosts ∈ uTb := mT8 (List.mem_of_getElem? (i := 169) rfl) rfl
theorem mim_X12_heardPosts : Cond.instanceMethod yX12_heardPosts ∈ uTb := mT8 (List.mem_of_getElem? (i := 171) rfl) rfl
theorem mco_X12_heardPosts : Cond.code yX12_heardPosts cX12_heardPosts 5 (some .int) ∈ uTb := mT8 (List.mem_of_getElem? (i := 172) rfl) rfl
theorem mml_L_126 : Cond.methodLink RL 126 yX12_heard ∈ uTb := mT8 (List.mem_of_getElem? (i := 173) rfl) rfl
theorem mim_X12_heard : Cond.instanceMethod yX12_heard ∈ uTb := mT8 (List.mem_of_getElem? (i := 174) rfl) rfl
theorem mse_X12_heard : Cond.selects RX12 yX12_heard yX12_heard ∈ uTb := mT8 (List.mem_of_getElem? (i := 175) rfl) rfl
theorem mco_X12_heard : Cond.code yX12_heard cX12_heard 5 (some .int) ∈ uTb := mT8 (List.mem_of_getElem? (i := 176) rfl) rfl
theorem mml_L_130 : Cond.methodLink RL 130 yX12_sent ∈ uTb := mT8 (List.mem_of_getElem? (i := 177) rfl) rfl
theorem mim_X12_sent : Cond.instanceMethod yX12_sent ∈ uTb := mT8 (List.mem_of_getElem? (i := 178) rfl) rfl
theorem mse_X12_sent : Cond.selects RX12 yX12_sent yX12_sent ∈ uTb := mT8 (List.mem_of_getElem? (i := 179) rfl) rfl
theorem mco_X12_sent : Cond.code yX12_sent cX12_sent 2 (some .int) ∈ uTb := mT8 (List.mem_of_getElem? (i := 180) rfl) rfl
theorem mml_L_134 : Cond.methodLink RL 134 yX12_way ∈ uTb := mT8 (List.mem_of_getElem? (i := 181) rfl) rfl
theorem mim_X12_way : Cond.instanceMethod yX12_way ∈ uTb := mT8 (List.mem_of_getElem? (i := 182) rfl) rfl
theorem mse_X12_way : Cond.selects RX12 yX12_way yX12_way ∈ uTb := mT8 (List.mem_of_getElem? (i := 183) rfl) rfl
theorem mco_X12_way : Cond.code yX12_way cX12_way 3 (some .int) ∈ uTb := mT8 (List.mem_of_getElem? (i := 184) rfl) rfl
theorem mml_X12_547 : Cond.methodLink RX12 547 yX12_spreads ∈ uTb := mT8 (List.mem_of_getElem? (i := 185) rfl) rfl
theorem mim_X12_spreads : Cond.instanceMethod yX12_spreads ∈ uTb := mT8 (List.mem_of_getElem? (i := 187) rfl) rfl
theorem mco_X12_spreads : Cond.code yX12_spreads cX12_spreads 6 none ∈ uTb := mT8 (List.mem_of_getElem? (i := 188) rfl) rfl
theorem mct_X12_543 : Cond.constant RX12 543 (2147483647) ∈ uTb := mT8 (List.mem_of_getElem? (i := 189) rfl) rfl
theorem mml_X12_544 : Cond.methodLink RX12 544 yX12_reaches ∈ uTb := mT8 (List.mem_of_getElem? (i := 190) rfl) rfl
theorem mim_X12_reaches : Cond.instanceMethod yX12_reaches ∈ uTb := mT8 (List.mem_of_getElem? (i := 192) rfl) rfl
theorem mco_X12_reaches : Cond.code yX12_reaches cX12_reaches 3 none ∈ uTb := mT8 (List.mem_of_getElem? (i := 193) rfl) rfl
theorem mml_X12_538 : Cond.methodLink RX12 538 yX12_stepCost ∈ uTb := mT8 (List.mem_of_getElem? (i := 194) rfl) rfl
theorem mim_X12_stepCost : Cond.instanceMethod yX12_stepCost ∈ uTb := mT8 (List.mem_of_getElem? (i := 196) rfl) rfl
theorem mco_X12_stepCost : Cond.code yX12_stepCost cX12_stepCost 4 (some .int) ∈ uTb := mT8 (List.mem_of_getElem? (i := 197) rfl) rfl
theorem mml_L_138 : Cond.methodLink RL 138 yX12_store ∈ uTb := mT8 (List.mem_of_getElem? (i := 198) rfl) rfl
theorem mim_X12_store : Cond.instanceMethod yX12_store ∈ uTb := mT8 (List.mem_of_getElem? (i := 199) rfl) rfl
theorem mse_X12_store : Cond.selects RX12 yX12_store yX12_store ∈ uTb := mT8 (List.mem_of_getElem? (i := 200) rfl) rfl
theorem mco_X12_store : Cond.code yX12_store cX12_store 3 (some .boolean) ∈ uTb := mT8 (List.mem_of_getElem? (i := 201) rfl) rfl
theorem mml_L_142 : Cond.methodLink RL 142 yX12_supply ∈ uTb := mT8 (List.mem_of_getElem? (i := 202) rfl) rfl
theorem mim_X12_supply : Cond.instanceMethod yX12_supply ∈ uTb := mT8 (List.mem_of_getElem? (i := 203) rfl) rfl
theorem mse_X12_supply : Cond.selects RX12 yX12_supply yX12_supply ∈ uTb := mT8 (List.mem_of_getElem? (i := 204) rfl) rfl
theorem mco_X12_supply : Cond.code yX12_supply cX12_supply 7 (some .int) ∈ uTb := mT8 (List.mem_of_getElem? (i := 205) rfl) rfl
theorem mml_X12_550 : Cond.methodLink RX12 550 yX12_nextCarry ∈ uTb := mT8 (List.mem_of_getElem? (i := 206) rfl) rfl
theorem mim_X12_nextCarry : Cond.instanceMethod yX12_nextCarry ∈ uTb := mT8 (List.mem_of_getElem? (i := 208) rfl) rfl
theorem mco_X12_nextCarry : Cond.code yX12_nextCarry cX12_nextCarry 4 (some .int) ∈ uTb := mT8 (List.mem_of_getElem? (i := 209) rfl) rfl
theorem mml_L_146 : Cond.methodLink RL 146 yX12_supplied ∈ uTb := mT8 (List.mem_of_getElem? (i := 210) rfl) rfl
theorem mim_X12_supplied : Cond.instanceMethod yX12_supplied ∈ uTb := mT8 (List.mem_of_getElem? (i := 211) rfl) rfl
theorem mse_X12_supplied : Cond.selects RX12 yX12_supplied yX12_supplied ∈ uTb := mT8 (List.mem_of_getElem? (i := 212) rfl) rfl
theorem mco_X12_supplied : Cond.code yX12_supplied cX12_supplied 3 (some .int) ∈ uTb := mT8 (List.mem_of_getElem? (i := 213) rfl) rfl
theorem mml_L_150 : Cond.methodLink RL 150 yX12_look ∈ uTb := mT8 (List.mem_of_getElem? (i := 214) rfl) rfl
theorem mim_X12_look : Cond.instanceMethod yX12_look ∈ uTb := mT8 (List.mem_of_getElem? (i := 215) rfl) rfl
theorem mse_X12_look : Cond.selects RX12 yX12_look yX12_look ∈ uTb := mT8 (List.mem_of_getElem? (i := 216) rfl) rfl
theorem mco_X12_look : Cond.code yX12_look cX12_look 3 (some .int) ∈ uTb := mT8 (List.mem_of_getElem? (i := 217) rfl) rfl
theorem mml_L_154 : Cond.methodLink RL 154 yX12_count ∈ uTb := mT8 (List.mem_of_getElem? (i := 218) rfl) rfl
theorem mim_X12_count : Cond.instanceMethod yX12_count ∈ uTb := mT8 (List.mem_of_getElem? (i := 219) rfl) rfl
theorem mse_X12_count : Cond.selects RX12 yX12_count yX12_count ∈ uTb := mT8 (List.mem_of_getElem? (i := 220) rfl) rfl
theorem mco_X12_count : Cond.code yX12_count cX12_count 2 (some .int) ∈ uTb := mT8 (List.mem_of_getElem? (i := 221) rfl) rfl
theorem mfl_J0_9 : Cond.fieldLink RJ0 9 "java/lang/String" "value" "[B" ∈ uTb := mT8 (List.mem_of_getElem? (i := 222) rfl) rfl
theorem mfl_J0_15 : Cond.fieldLink RJ0 15 "java/lang/String" "coder" "B" ∈ uTb := mT8 (List.mem_of_getElem? (i := 223) rfl) rfl
theorem mse_X4_isTaken : Cond.selects RX4 yX4_isTaken yX4_isTaken ∈ uTb := mTs1 (q := (yX4_isTaken, 10)) (List.mem_of_getElem? (i := 0) rfl) rfl
theorem mse_X8_reaches : Cond.selects RX8 yX8_reaches yX8_reaches ∈ uTb := mTs1 (q := (yX8_reaches, 2)) (List.mem_of_getElem? (i := 1) rfl) rfl
theorem mse_X8_span : Cond.selects RX8 yX8_span yX8_span ∈ uTb := mTs1 (q := (yX8_span, 2)) (List.mem_of_getElem? (i := 2) rfl) rfl
theorem mse_X8_excess : Cond.selects RX8 yX8_excess yX8_excess ∈ uTb := mTs1 (q := (yX8_excess, 2)) (List.mem_of_getElem? (i := 3) rfl) rfl
theorem mse_X3_markStruck : Cond.selects RX3 yX3_markStruck yX3_markStruck ∈ uTb := mTs1 (q := (yX3_markStruck, 10)) (List.mem_of_getElem? (i := 4) rfl) rfl
theorem mse_X3_setBounds : Cond.selects RX3 yX3_setBounds yX3_setBounds ∈ uTb := mTs1 (q := (yX3_setBounds, 10)) (List.mem_of_getElem? (i := 5) rfl) rfl
theorem mse_X3_notAfter : Cond.selects RX3 yX3_notAfter yX3_notAfter ∈ uTb := mTs1 (q := (yX3_notAfter, 10)) (List.mem_of_getElem? (i := 6) rfl) rfl
theorem mse_X3_notBefore : Cond.selects RX3 yX3_notBefore yX3_notBefore ∈ uTb := mTs1 (q := (yX3_notBefore, 10)) (List.mem_of_getElem? (i := 7) rfl) rfl
theorem mse_X3_handOn : Cond.selects RX3 yX3_handOn yX3_handOn ∈ uTb := mTs1 (q := (yX3_handOn, 10)) (List.mem_of_getElem? (i := 8) rfl) rfl
theorem mse_X3_inOrder : Cond.selects RX3 yX3_inOrder yX3_inOrder ∈ uTb := mTs1 (q := (yX3_inOrder, 10)) (List.mem_of_getElem? (i := 9) rfl) rfl
theorem mse_X3_boundsMeet : Cond.selects RX3 yX3_boundsMeet yX3_boundsMeet ∈ uTb := mTs1 (q := (yX3_boundsMeet, 10)) (List.mem_of_getElem? (i := 10) rfl) rfl
theorem mse_X1_standingAs : Cond.selects RX1 yX1_standingAs yX1_standingAs ∈ uTb := mTs1 (q := (yX1_standingAs, 7)) (List.mem_of_getElem? (i := 11) rfl) rfl
theorem mse_X1_tie : Cond.selects RX1 yX1_tie yX1_tie ∈ uTb := mTs1 (q := (yX1_tie, 7)) (List.mem_of_getElem? (i := 12) rfl) rfl
theorem mse_X1_reach : Cond.selects RX1 yX1_reach yX1_reach ∈ uTb := mTs1 (q := (yX1_reach, 7)) (List.mem_of_getElem? (i := 13) rfl) rfl
theorem mse_X6_gather : Cond.selects RX6 yX6_gather yX6_gather ∈ uTb := mTs1 (q := (yX6_gather, 5)) (List.mem_of_getElem? (i := 14) rfl) rfl
theorem mse_X6_take : Cond.selects RX6 yX6_take yX6_take ∈ uTb := mTs1 (q := (yX6_take, 5)) (List.mem_of_getElem? (i := 15) rfl) rfl
theorem mse_X6_countShares : Cond.selects RX6 yX6_countShares yX6_countShares ∈ uTb := mTs2 (q := (yX6_countShares, 5)) (List.mem_of_getElem? (i := 0) rfl) rfl
theorem mse_X5_begin : Cond.selects RX5 yX5_begin yX5_begin ∈ uTb := mTs2 (q := (yX5_begin, 10)) (List.mem_of_getElem? (i := 1) rfl) rfl
theorem mse_X10_takeName : Cond.selects RX10 yX10_takeName yX10_takeName ∈ uTb := mTs2 (q := (yX10_takeName, 10)) (List.mem_of_getElem? (i := 2) rfl) rfl
theorem mse_X10_keyOf : Cond.selects RX10 yX10_keyOf yX10_keyOf ∈ uTb := mTs2 (q := (yX10_keyOf, 10)) (List.mem_of_getElem? (i := 3) rfl) rfl
theorem mse_X10_takeNumber : Cond.selects RX10 yX10_takeNumber yX10_takeNumber ∈ uTb := mTs2 (q := (yX10_takeNumber, 10)) (List.mem_of_getElem? (i := 4) rfl) rfl
theorem mse_X10_takeMark : Cond.selects RX10 yX10_takeMark yX10_takeMark ∈ uTb := mTs2 (q := (yX10_takeMark, 10)) (List.mem_of_getElem? (i := 5) rfl) rfl
theorem mse_X5_readWord : Cond.selects RX5 yX5_readWord yX5_readWord ∈ uTb := mTs2 (q := (yX5_readWord, 10)) (List.mem_of_getElem? (i := 6) rfl) rfl
theorem mse_X5_atName : Cond.selects RX5 yX5_atName yX5_atName ∈ uTb := mTs2 (q := (yX5_atName, 10)) (List.mem_of_getElem? (i := 7) rfl) rfl
theorem mse_X5_fail : Cond.selects RX5 yX5_fail yX5_fail ∈ uTb := mTs2 (q := (yX5_fail, 10)) (List.mem_of_getElem? (i := 8) rfl) rfl
theorem mse_X5_atNumber : Cond.selects RX5 yX5_atNumber yX5_atNumber ∈ uTb := mTs2 (q := (yX5_atNumber, 10)) (List.mem_of_getElem? (i := 9) rfl) rfl
theorem mse_X5_readLike : Cond.selects RX5 yX5_readLike yX5_readLike ∈ uTb := mTs2 (q := (yX5_readLike, 10)) (List.mem_of_getElem? (i := 10) rfl) rfl
theorem mse_X5_readMinutes : Cond.selects RX5 yX5_readMinutes yX5_readMinutes ∈ uTb := mTs2 (q := (yX5_readMinutes, 10)) (List.mem_of_getElem? (i := 11) rfl) rfl
theorem mse_X5_readLook : Cond.selects RX5 yX5_readLook yX5_readLook ∈ uTb := mTs2 (q := (yX5_readLook, 10)) (List.mem_of_getElem? (i := 12) rfl) rfl
theorem mse_X5_readOrder : Cond.selects RX5 yX5_readOrder yX5_readOrder ∈ uTb := mTs2 (q := (yX5_readOrder, 10)) (List.mem_of_getElem? (i := 13) rfl) rfl
theorem mse_X5_passKey : Cond.selects RX5 yX5_passKey yX5_passKey ∈ uTb := mTs2 (q := (yX5_passKey, 10)) (List.mem_of_getElem? (i := 14) rfl) rfl
theorem mse_X5_readActs : Cond.selects RX5 yX5_readActs yX5_readActs ∈ uTb := mTs2 (q := (yX5_readActs, 10)) (List.mem_of_getElem? (i := 15) rfl) rfl
theorem mse_X5_readAct : Cond.selects RX5 yX5_readAct yX5_readAct ∈ uTb := mTs3 (q := (yX5_readAct, 10)) (List.mem_of_getElem? (i := 0) rfl) rfl
theorem mse_X5_readWait : Cond.selects RX5 yX5_readWait yX5_readWait ∈ uTb := mTs3 (q := (yX5_readWait, 10)) (List.mem_of_getElem? (i := 1) rfl) rfl
theorem mse_X5_readSend : Cond.selects RX5 yX5_readSend yX5_readSend ∈ uTb := mTs3 (q := (yX5_readSend, 10)) (List.mem_of_getElem? (i := 2) rfl) rfl
theorem mse_X5_passMark : Cond.selects RX5 yX5_passMark yX5_passMark ∈ uTb := mTs3 (q := (yX5_passMark, 10)) (List.mem_of_getElem? (i := 3) rfl) rfl
theorem mse_X5_findOrderWords : Cond.selects RX5 yX5_findOrderWords yX5_findOrderWords ∈ uTb := mTs3 (q := (yX5_findOrderWords, 10)) (List.mem_of_getElem? (i := 4) rfl) rfl
theorem mse_X5_findActWords : Cond.selects RX5 yX5_findActWords yX5_findActWords ∈ uTb := mTs3 (q := (yX5_findActWords, 10)) (List.mem_of_getElem? (i := 5) rfl) rfl
theorem mse_X2_hear : Cond.selects RX2 yX2_hear yX2_hear ∈ uTb := mTs3 (q := (yX2_hear, 14)) (List.mem_of_getElem? (i := 6) rfl) rfl
theorem mse_X2_nextOrder : Cond.selects RX2 yX2_nextOrder yX2_nextOrder ∈ uTb := mTs3 (q := (yX2_nextOrder, 14)) (List.mem_of_getElem? (i := 7) rfl) rfl
theorem mse_X2_carryOut : Cond.selects RX2 yX2_carryOut yX2_carryOut ∈ uTb := mTs3 (q := (yX2_carryOut, 14)) (List.mem_of_getElem? (i := 8) rfl) rfl
theorem mse_X2_show : Cond.selects RX2 yX2_show yX2_show ∈ uTb := mTs3 (q := (yX2_show, 14)) (List.mem_of_getElem? (i := 9) rfl) rfl
theorem mse_X2_queue : Cond.selects RX2 yX2_queue yX2_queue ∈ uTb := mTs3 (q := (yX2_queue, 14)) (List.mem_of_getElem? (i := 10) rfl) rfl
theorem mse_X2_lookAt : Cond.selects RX2 yX2_lookAt yX2_lookAt ∈ uTb := mTs3 (q := (yX2_lookAt, 14)) (List.mem_of_getElem? (i := 11) rfl) rfl
theorem mse_X2_postsThatHeard : Cond.selects RX2 yX2_postsThatHeard yX2_postsThatHeard ∈ uTb := mTs3 (q := (yX2_postsThatHeard, 14)) (List.mem_of_getElem? (i := 12) rfl) rfl
theorem mse_X0_lowerAll : Cond.selects RX0 yX0_lowerAll yX0_lowerAll ∈ uTb := mTs3 (q := (yX0_lowerAll, 9)) (List.mem_of_getElem? (i := 13) rfl) rfl
theorem mse_X0_lower : Cond.selects RX0 yX0_lower yX0_lower ∈ uTb := mTs3 (q := (yX0_lower, 9)) (List.mem_of_getElem? (i := 14) rfl) rfl
theorem mse_X0_over : Cond.selects RX0 yX0_over yX0_over ∈ uTb := mTs3 (q := (yX0_over, 9)) (List.mem_of_getElem? (i := 15) rfl) rfl
theorem mse_X0_begin : Cond.selects RX0 yX0_begin yX0_begin ∈ uTb := mTs4 (q := (yX0_begin, 9)) (List.mem_of_getElem? (i := 0) rfl) rfl
theorem mse_X0_nearestPair : Cond.selects RX0 yX0_nearestPair yX0_nearestPair ∈ uTb := mTs4 (q := (yX0_nearestPair, 9)) (List.mem_of_getElem? (i := 1) rfl) rfl
theorem mse_X0_hasStore : Cond.selects RX0 yX0_hasStore yX0_hasStore ∈ uTb := mTs4 (q := (yX0_hasStore, 9)) (List.mem_of_getElem? (i := 2) rfl) rfl
theorem mse_X0_carry : Cond.selects RX0 yX0_carry yX0_carry ∈ uTb := mTs4 (q := (yX0_carry, 9)) (List.mem_of_getElem? (i := 3) rfl) rfl
theorem mse_X12_clearsRules : Cond.selects RX12 yX12_clearsRules yX12_clearsRules ∈ uTb := mTs4 (q := (yX12_clearsRules, 99)) (List.mem_of_getElem? (i := 4) rfl) rfl
theorem mse_X12_areTwo : Cond.selects RX12 yX12_areTwo yX12_areTwo ∈ uTb := mTs4 (q := (yX12_areTwo, 99)) (List.mem_of_getElem? (i := 5) rfl) rfl
theorem mse_X12_stands : Cond.selects RX12 yX12_stands yX12_stands ∈ uTb := mTs4 (q := (yX12_stands, 99)) (List.mem_of_getElem? (i := 6) rfl) rfl
theorem mse_X12_isPost : Cond.selects RX12 yX12_isPost yX12_isPost ∈ uTb := mTs4 (q := (yX12_isPost, 99)) (List.mem_of_getElem? (i := 7) rfl) rfl
theorem mse_X12_sightOf : Cond.selects RX12 yX12_sightOf yX12_sightOf ∈ uTb := mTs4 (q := (yX12_sightOf, 99)) (List.mem_of_getElem? (i := 8) rfl) rfl
theorem mse_X12_isNear : Cond.selects RX12 yX12_isNear yX12_isNear ∈ uTb := mTs4 (q := (yX12_isNear, 99)) (List.mem_of_getElem? (i := 9) rfl) rfl
theorem mse_X12_blockOf : Cond.selects RX12 yX12_blockOf yX12_blockOf ∈ uTb := mTs4 (q := (yX12_blockOf, 99)) (List.mem_of_getElem? (i := 10) rfl) rfl
theorem mse_X12_spanOf : Cond.selects RX12 yX12_spanOf yX12_spanOf ∈ uTb := mTs4 (q := (yX12_spanOf, 99)) (List.mem_of_getElem? (i := 11) rfl) rfl
theorem mse_X12_eye : Cond.selects RX12 yX12_eye yX12_eye ∈ uTb := mTs4 (q := (yX12_eye, 99)) (List.mem_of_getElem? (i := 12) rfl) rfl
theorem mse_X12_cellOf : Cond.selects RX12 yX12_cellOf yX12_cellOf ∈ uTb := mTs4 (q := (yX12_cellOf, 99)) (List.mem_of_getElem? (i := 13) rfl) rfl
theorem mse_X12_topAt : Cond.selects RX12 yX12_topAt yX12_topAt ∈ uTb := mTs4 (q := (yX12_topAt, 99)) (List.mem_of_getElem? (i := 14) rfl) rfl
theorem mse_X12_cellAt : Cond.selects RX12 yX12_cellAt yX12_cellAt ∈ uTb := mTs4 (q := (yX12_cellAt, 99)) (List.mem_of_getElem? (i := 15) rfl) rfl
theorem mse_X12_notes : Cond.selects RX12 yX12_notes yX12_notes ∈ uTb := mTs5 (q := (yX12_notes, 99)) (List.mem_of_getElem? (i := 0) rfl) rfl
theorem mse_X12_isKnown : Cond.selects RX12 yX12_isKnown yX12_isKnown ∈ uTb := mTs5 (q := (yX12_isKnown, 99)) (List.mem_of_getElem? (i := 1) rfl) rfl
theorem mse_X12_knows : Cond.selects RX12 yX12_knows yX12_knows ∈ uTb := mTs5 (q := (yX12_knows, 99)) (List.mem_of_getElem? (i := 2) rfl) rfl
theorem mse_X12_bounds : Cond.selects RX12 yX12_bounds yX12_bounds ∈ uTb := mTs5 (q := (yX12_bounds, 99)) (List.mem_of_getElem? (i := 3) rfl) rfl
theorem mse_X12_ahead : Cond.selects RX12 yX12_ahead yX12_ahead ∈ uTb := mTs5 (q := (yX12_ahead, 99)) (List.mem_of_getElem? (i := 4) rfl) rfl
theorem mse_X12_orders : Cond.selects RX12 yX12_orders yX12_orders ∈ uTb := mTs5 (q := (yX12_orders, 99)) (List.mem_of_getElem? (i := 5) rfl) rfl
theorem mse_X12_stoodIn : Cond.selects RX12 yX12_stoodIn yX12_stoodIn ∈ uTb := mTs5 (q := (yX12_stoodIn, 99)) (List.mem_of_getElem? (i := 6) rfl) rfl
theorem mse_X12_lines : Cond.selects RX12 yX12_lines yX12_lines ∈ uTb := mTs5 (q := (yX12_lines, 99)) (List.mem_of_getElem? (i := 7) rfl) rfl
theorem mse_X12_linkOf : Cond.selects RX12 yX12_linkOf yX12_linkOf ∈ uTb := mTs5 (q := (yX12_linkOf, 99)) (List.mem_of_getElem? (i := 8) rfl) rfl
theorem mse_X12_groupsOf : Cond.selects RX12 yX12_groupsOf yX12_groupsOf ∈ uTb := mTs5 (q := (yX12_groupsOf, 99)) (List.mem_of_getElem? (i := 9) rfl) rfl
theorem mse_X12_reached : Cond.selects RX12 yX12_reached yX12_reached ∈ uTb := mTs5 (q := (yX12_reached, 99)) (List.mem_of_getElem? (i := 10) rfl) rfl
theorem mse_X12_joins : Cond.selects RX12 yX12_joins yX12_joins ∈ uTb := mTs5 (q := (yX12_joins, 99)) (List.mem_of_getElem? (i := 11) rfl) rfl
theorem mse_X12_shareOf : Cond.selects RX12 yX12_shareOf yX12_shareOf ∈ uTb := mTs5 (q := (yX12_shareOf, 99)) (List.mem_of_getElem? (i := 12) rfl) rfl
theorem mse_X12_wasSupposed : Cond.selects RX12 yX12_wasSupposed yX12_wasSupposed ∈ uTb := mTs5 (q := (yX12_wasSupposed, 99)) (List.mem_of_getElem? (i := 13) rfl) rfl
theorem mse_X12_next : Cond.selects RX12 yX12_next yX12_next ∈ uTb := mTs5 (q := (yX12_next, 99)) (List.mem_of_getElem? (i := 14) rfl) rfl
theorem mse_X12_here : Cond.selects RX12 yX12_here yX12_here ∈ uTb := mTs5 (q := (yX12_here, 99)) (List.mem_of_getElem? (i := 15) rfl) rfl
theorem mse_X12_reserved : Cond.selects RX12 yX12_reserved yX12_reserved ∈ uTb := mTs6 (q := (yX12_reserved, 99)) (List.mem_of_getElem? (i := 0) rfl) rfl
theorem mse_X12_line : Cond.selects RX12 yX12_line yX12_line ∈ uTb := mTs6 (q := (yX12_line, 99)) (List.mem_of_getElem? (i := 1) rfl) rfl
theorem mse_X12_wrong : Cond.selects RX12 yX12_wrong yX12_wrong ∈ uTb := mTs6 (q := (yX12_wrong, 99)) (List.mem_of_getElem? (i := 2) rfl) rfl
theorem mse_X12_wrongAt : Cond.selects RX12 yX12_wrongAt yX12_wrongAt ∈ uTb := mTs6 (q := (yX12_wrongAt, 99)) (List.mem_of_getElem? (i := 3) rfl) rfl
theorem mse_X12_word : Cond.selects RX12 yX12_word yX12_word ∈ uTb := mTs6 (q := (yX12_word, 99)) (List.mem_of_getElem? (i := 4) rfl) rfl
theorem mse_X12_wordOf : Cond.selects RX12 yX12_wordOf yX12_wordOf ∈ uTb := mTs6 (q := (yX12_wordOf, 99)) (List.mem_of_getElem? (i := 5) rfl) rfl
theorem mse_X12_name : Cond.selects RX12 yX12_name yX12_name ∈ uTb := mTs6 (q := (yX12_name, 99)) (List.mem_of_getElem? (i := 6) rfl) rfl
theorem mse_X12_number : Cond.selects RX12 yX12_number yX12_number ∈ uTb := mTs6 (q := (yX12_number, 99)) (List.mem_of_getElem? (i := 7) rfl) rfl
theorem mse_X12_areSame : Cond.selects RX12 yX12_areSame yX12_areSame ∈ uTb := mTs6 (q := (yX12_areSame, 99)) (List.mem_of_getElem? (i := 8) rfl) rfl
theorem mse_X12_order : Cond.selects RX12 yX12_order yX12_order ∈ uTb := mTs6 (q := (yX12_order, 99)) (List.mem_of_getElem? (i := 9) rfl) rfl
theorem mse_X12_isReserved : Cond.selects RX12 yX12_isReserved yX12_isReserved ∈ uTb := mTs6 (q := (yX12_isReserved, 99)) (List.mem_of_getElem? (i := 10) rfl) rfl
theorem mse_X12_wants : Cond.selects RX12 yX12_wants yX12_wants ∈ uTb := mTs6 (q := (yX12_wants, 99)) (List.mem_of_getElem? (i := 11) rfl) rfl
theorem mse_X12_act : Cond.selects RX12 yX12_act yX12_act ∈ uTb := mTs6 (q := (yX12_act, 99)) (List.mem_of_getElem? (i := 12) rfl) rfl
theorem mse_X12_resolves : Cond.selects RX12 yX12_resolves yX12_resolves ∈ uTb := mTs6 (q := (yX12_resolves, 99)) (List.mem_of_getElem? (i := 13) rfl) rfl
theorem mse_X12_takes : Cond.selects RX12 yX12_takes yX12_takes ∈ uTb := mTs6 (q := (yX12_takes, 99)) (List.mem_of_getElem? (i := 14) rfl) rfl
theorem mse_X12_hears : Cond.selects RX12 yX12_hears yX12_hears ∈ uTb := mTs6 (q := (yX12_hears, 99)) (List.mem_of_getElem? (i := 15) rfl) rfl
theorem mse_X12_isDue : Cond.selects RX12 yX12_isDue yX12_isDue ∈ uTb := mTs7 (q := (yX12_isDue, 99)) (List.mem_of_getElem? (i := 0) rfl) rfl
theorem mse_X12_does : Cond.selects RX12 yX12_does yX12_does ∈ uTb := mTs7 (q := (yX12_does, 99)) (List.mem_of_getElem? (i := 1) rfl) rfl
theorem mse_X12_sends : Cond.selects RX12 yX12_sends yX12_sends ∈ uTb := mTs7 (q := (yX12_sends, 99)) (List.mem_of_getElem? (i := 2) rfl) rfl
theorem mse_X12_puts : Cond.selects RX12 yX12_puts yX12_puts ∈ uTb := mTs7 (q := (yX12_puts, 99)) (List.mem_of_getElem? (i := 3) rfl) rfl
theorem mse_X12_nextSeen : Cond.selects RX12 yX12_nextSeen yX12_nextSeen ∈ uTb := mTs7 (q := (yX12_nextSeen, 99)) (List.mem_of_getElem? (i := 4) rfl) rfl
theorem mse_X12_looks : Cond.selects RX12 yX12_looks yX12_looks ∈ uTb := mTs7 (q := (yX12_looks, 99)) (List.mem_of_getElem? (i := 5) rfl) rfl
theorem mse_X12_readAs : Cond.selects RX12 yX12_readAs yX12_readAs ∈ uTb := mTs7 (q := (yX12_readAs, 99)) (List.mem_of_getElem? (i := 6) rfl) rfl
theorem mse_X12_isDim : Cond.selects RX12 yX12_isDim yX12_isDim ∈ uTb := mTs7 (q := (yX12_isDim, 99)) (List.mem_of_getElem? (i := 7) rfl) rfl
theorem mse_X12_heardPosts : Cond.selects RX12 yX12_heardPosts yX12_heardPosts ∈ uTb := mTs7 (q := (yX12_heardPosts, 99)) (List.mem_of_getElem? (i := 8) rfl) rfl
theorem mse_X12_spreads : Cond.selects RX12 yX12_spreads yX12_spreads ∈ uTb := mTs7 (q := (yX12_spreads, 99)) (List.mem_of_getElem? (i := 9) rfl) rfl
theorem mse_X12_reaches : Cond.selects RX12 yX12_reaches yX12_reaches ∈ uTb := mTs7 (q := (yX12_reaches, 99)) (List.mem_of_getElem? (i := 10) rfl) rfl
theorem mse_X12_stepCost : Cond.selects RX12 yX12_stepCost yX12_stepCost ∈ uTb := mTs7 (q := (yX12_stepCost, 99)) (List.mem_of_getElem? (i := 11) rfl) rfl
theorem mse_X12_nextCarry : Cond.selects RX12 yX12_nextCarry yX12_nextCarry ∈ uTb := mTs7 (q := (yX12_nextCarry, 99)) (List.mem_of_getElem? (i := 12) rfl) rfl
theorem inlX0 : ∀ w ∈ wsX00, w ∈ uTb := by
  intro w hw
  obtain ⟨k, hk, rfl⟩ := List.mem_map.mp hw
  have hk := List.mem_range.mp hk
  match k, hk with
  | 0, _ => exact mla_X0_0
  | 1, _ => exact mla_X0_1
  | 2, _ => exact mla_X0_2
  | 3, _ => exact mla_X0_3
  | 4, _ => exact mla_X0_4
  | 5, _ => exact mla_X0_5
  | 6, _ => exact mla_X0_6
  | 7, _ => exact mla_X0_7
  | 8, _ => exact mla_X0_8
  | n + 9, h => exact absurd h (by omega)
theorem inlX1 : ∀ w ∈ wsX10, w ∈ uTb := by
  intro w hw
  obtain ⟨k, hk, rfl⟩ := List.mem_map.mp hw
  have hk := List.mem_range.mp hk
  match k, hk with
  | 0, _ => exact mla_X1_0
  | 1, _ => exact mla_X1_1
  | 2, _ => exact mla_X1_2
  | 3, _ => exact mla_X1_3
  | 4, _ => exact mla_X1_4
  | 5, _ => exact mla_X1_5
  | 6, _ => exact mla_X1_6
  | n + 7, h => exact absurd h (by omega)
theorem inlX2 : ∀ w ∈ wsX20, w ∈ uTb := by
  intro w hw
  obtain ⟨k, hk, rfl⟩ := List.mem_map.mp hw
  have hk := List.mem_range.mp hk
  match k, hk with
  | 0, _ => exact mla_X2_0
  | 1, _ => exact mla_X2_1
  | 2, _ => exact mla_X2_2
  | 3, _ => exact mla_X2_3
  | 4, _ => exact mla_X2_4
  | 5, _ => exact mla_X2_5
  | 6, _ => exact mla_X2_6
  | 7, _ => exact mla_X2_7
  | 8, _ => exact mla_X2_8
  | 9, _ => exact mla_X2_9
  | 10, _ => exact mla_X2_10
  | 11, _ => exact mla_X2_11
  | 12, _ => exact mla_X2_12
  | 13, _ => exact mla_X2_13
  | n + 14, h => exact absurd h (by omega)
theorem inlX3 : ∀ w ∈ wsX30, w ∈ uTb := by
  intro w hw
  obtain ⟨k, hk, rfl⟩ := List.mem_map.mp hw
  have hk := List.mem_range.mp hk
  match k, hk with
  | 0, _ => exact mla_X3_0
  | 1, _ => exact mla_X3_1
  | 2, _ => exact mla_X3_2
  | 3, _ => exact mla_X3_3
  | 4, _ => exact mla_X3_4
  | 5, _ => exact mla_X3_5
  | 6, _ => exact mla_X3_6
  | 7, _ => exact mla_X3_7
  | 8, _ => exact mla_X3_8
  | 9, _ => exact mla_X3_9
  | n + 10, h => exact absurd h (by omega)
theorem inlX4 : ∀ w ∈ wsX40, w ∈ uTb := by
  intro w hw
  obtain ⟨k, hk, rfl⟩ := List.mem_map.mp hw
  have hk := List.mem_range.mp hk
  match k, hk with
  | 0, _ => exact mla_X4_0
  | 1, _ => exact mla_X4_1
  | 2, _ => exact mla_X4_2
  | 3, _ => exact mla_X4_3
  | 4, _ => exact mla_X4_4
  | 5, _ => exact mla_X4_5
  | 6, _ => exact mla_X4_6
  | 7, _ => exact mla_X4_7
  | 8, _ => exact mla_X4_8
  | 9, _ => exact mla_X4_9
  | n + 10, h => exact absurd h (by omega)
theorem inlX5 : ∀ w ∈ wsX50, w ∈ uTb := by
  intro w hw
  obtain ⟨k, hk, rfl⟩ := List.mem_map.mp hw
  have hk := List.mem_range.mp hk
  match k, hk with
  | 0, _ => exact mla_X5_0
  | 1, _ => exact mla_X5_1
  | 2, _ => exact mla_X5_2
  | 3, _ => exact mla_X5_3
  | 4, _ => exact mla_X5_4
  | 5, _ => exact mla_X5_5
  | 6, _ => exact mla_X5_6
  | 7, _ => exact mla_X5_7
  | 8, _ => exact mla_X5_8
  | 9, _ => exact mla_X5_9
  | n + 10, h => exact absurd h (by omega)
theorem inlX6 : ∀ w ∈ wsX60, w ∈ uTb := by
  intro w hw
  obtain ⟨k, hk, rfl⟩ := List.mem_map.mp hw
  have hk := List.mem_range.mp hk
  match k, hk with
  | 0, _ => exact mla_X6_0
  | 1, _ => exact mla_X6_1
  | 2, _ => exact mla_X6_2
  | 3, _ => exact mla_X6_3
  | 4, _ => exact mla_X6_4
  | n + 5, h => exact absurd h (by omega)
theorem inlX7 : ∀ w ∈ wsX70, w ∈ uTb := by
  intro w hw
  obtain ⟨k, hk, rfl⟩ := List.mem_map.mp hw
  have hk := List.mem_range.mp hk
  match k, hk with
  | 0, _ => exact mla_X7_0
  | 1, _ => exact mla_X7_1
  | 2, _ => exact mla_X7_2
  | 3, _ => exact mla_X7_3
  | 4, _ => exact mla_X7_4
  | 5, _ => exact mla_X7_5
  | 6, _ => exact mla_X7_6
  | 7, _ => exact mla_X7_7
  | 8, _ => exact mla_X7_8
  | 9, _ => exact mla_X7_9
  | 10, _ => exact mla_X7_10
  | 11, _ => exact mla_X7_11
  | 12, _ => exact mla_X7_12
  | 13, _ => exact mla_X7_13
  | 14, _ => exact mla_X7_14
  | 15, _ => exact mla_X7_15
  | n + 16, h => exact absurd h (by omega)
theorem inlX8 : ∀ w ∈ wsX80, w ∈ uTb := by
  intro w hw
  obtain ⟨k, hk, rfl⟩ := List.mem_map.mp hw
  have hk := List.mem_range.mp hk
  match k, hk with
  | 0, _ => exact mla_X8_0
  | 1, _ => exact mla_X8_1
  | n + 2, h => exact absurd h (by omega)
theorem inlX9 : ∀ w ∈ wsX90, w ∈ uTb := by
  intro w hw
  obtain ⟨k, hk, rfl⟩ := List.mem_map.mp hw
  have hk := List.mem_range.mp hk
  match k, hk with
  | 0, _ => exact mla_X9_0
  | 1, _ => exact mla_X9_1
  | 2, _ => exact mla_X9_2
  | 3, _ => exact mla_X9_3
  | 4, _ => exact mla_X9_4
  | 5, _ => exact mla_X9_5
  | 6, _ => exact mla_X9_6
  | 7, _ => exact mla_X9_7
  | 8, _ => exact mla_X9_8
  | n + 9, h => exact absurd h (by omega)
theorem inlX10 : ∀ w ∈ wsX100, w ∈ uTb := by
  intro w hw
  obtain ⟨k, hk, rfl⟩ := List.mem_map.mp hw
  have hk := List.mem_range.mp hk
  match k, hk with
  | 0, _ => exact mla_X10_0
  | 1, _ => exact mla_X10_1
  | 2, _ => exact mla_X10_2
  | 3, _ => exact mla_X10_3
  | 4, _ => exact mla_X10_4
  | 5, _ => exact mla_X10_5
  | 6, _ => exact mla_X10_6
  | 7, _ => exact mla_X10_7
  | 8, _ => exact mla_X10_8
  | 9, _ => exact mla_X10_9
  | n + 10, h => exact absurd h (by omega)
theorem inlX11 : ∀ w ∈ wsX110, w ∈ uTb := by
  intro w hw
  obtain ⟨k, hk, rfl⟩ := List.mem_map.mp hw
  have hk := List.mem_range.mp hk
  match k, hk with
  | 0, _ => exact mla_X11_0
  | 1, _ => exact mla_X11_1
  | 2, _ => exact mla_X11_2
  | 3, _ => exact mla_X11_3
  | 4, _ => exact mla_X11_4
  | 5, _ => exact mla_X11_5
  | 6, _ => exact mla_X11_6
  | 7, _ => exact mla_X11_7
  | 8, _ => exact mla_X11_8
  | 9, _ => exact mla_X11_9
  | 10, _ => exact mla_X11_10
  | n + 11, h => exact absurd h (by omega)
theorem inlX12 : ∀ w ∈ wsX120, w ∈ uTb := by
  intro w hw
  obtain ⟨k, hk, rfl⟩ := List.mem_map.mp hw
  have hk := List.mem_range.mp hk
  match k, hk with
  | 0, _ => exact mla_X12_0
  | 1, _ => exact mla_X12_1
  | 2, _ => exact mla_X12_2
  | 3, _ => exact mla_X12_3
  | 4, _ => exact mla_X12_4
  | 5, _ => exact mla_X12_5
  | 6, _ => exact mla_X12_6
  | 7, _ => exact mla_X12_7
  | 8, _ => exact mla_X12_8
  | 9, _ => exact mla_X12_9
  | 10, _ => exact mla_X12_10
  | 11, _ => exact mla_X12_11
  | 12, _ => exact mla_X12_12
  | 13, _ => exact mla_X12_13
  | 14, _ => exact mla_X12_14
  | 15, _ => exact mla_X12_15
  | 16, _ => exact mla_X12_16
  | 17, _ => exact mla_X12_17
  | 18, _ => exact mla_X12_18
  | 19, _ => exact mla_X12_19
  | 20, _ => exact mla_X12_20
  | 21, _ => exact mla_X12_21
  | 22, _ => exact mla_X12_22
  | 23, _ => exact mla_X12_23
  | 24, _ => exact mla_X12_24
  | 25, _ => exact mla_X12_25
  | 26, _ => exact mla_X12_26
  | 27, _ => exact mla_X12_27
  | 28, _ => exact mla_X12_28
  | 29, _ => exact mla_X12_29
  | 30, _ => exact mla_X12_30
  | 31, _ => exact mla_X12_31
  | 32, _ => exact mla_X12_32
  | 33, _ => exact mla_X12_33
  | 34, _ => exact mla_X12_34
  | 35, _ => exact mla_X12_35
  | 36, _ => exact mla_X12_36
  | 37, _ => exact mla_X12_37
  | 38, _ => exact mla_X12_38
  | 39, _ => exact mla_X12_39
  | 40, _ => exact mla_X12_40
  | 41, _ => exact mla_X12_41
  | 42, _ => exact mla_X12_42
  | 43, _ => exact mla_X12_43
  | 44, _ => exact mla_X12_44
  | 45, _ => exact mla_X12_45
  | 46, _ => exact mla_X12_46
  | 47, _ => exact mla_X12_47
  | 48, _ => exact mla_X12_48
  | 49, _ => exact mla_X12_49
  | 50, _ => exact mla_X12_50
  | 51, _ => exact mla_X12_51
  | 52, _ => exact mla_X12_52
  | 53, _ => exact mla_X12_53
  | 54, _ => exact mla_X12_54
  | 55, _ => exact mla_X12_55
  | 56, _ => exact mla_X12_56
  | 57, _ => exact mla_X12_57
  | 58, _ => exact mla_X12_58
  | 59, _ => exact mla_X12_59
  | 60, _ => exact mla_X12_60
  | 61, _ => exact mla_X12_61
  | 62, _ => exact mla_X12_62
  | 63, _ => exact mla_X12_63
  | 64, _ => exact mla_X12_64
  | 65, _ => exact mla_X12_65
  | 66, _ => exact mla_X12_66
  | 67, _ => exact mla_X12_67
  | 68, _ => exact mla_X12_68
  | 69, _ => exact mla_X12_69
  | 70, _ => exact mla_X12_70
  | 71, _ => exact mla_X12_71
  | 72, _ => exact mla_X12_72
  | 73, _ => exact mla_X12_73
  | 74, _ => exact mla_X12_74
  | 75, _ => exact mla_X12_75
  | 76, _ => exact mla_X12_76
  | 77, _ => exact mla_X12_77
  | 78, _ => exact mla_X12_78
  | 79, _ => exact mla_X12_79
  | 80, _ => exact mla_X12_80
  | 81, _ => exact mla_X12_81
  | 82, _ => exact mla_X12_82
  | 83, _ => exact mla_X12_83
  | 84, _ => exact mla_X12_84
  | 85, _ => exact mla_X12_85
  | 86, _ => exact mla_X12_86
  | 87, _ => exact mla_X12_87
  | 88, _ => exact mla_X12_88
  | 89, _ => exact mla_X12_89
  | 90, _ => exact mla_X12_90
  | 91, _ => exact mla_X12_91
  | 92, _ => exact mla_X12_92
  | 93, _ => exact mla_X12_93
  | 94, _ => exact mla_X12_94
  | 95, _ => exact mla_X12_95
  | 96, _ => exact mla_X12_96
  | 97, _ => exact mla_X12_97
  | 98, _ => exact mla_X12_98
  | n + 99, h => exact absurd h (by omega)
theorem wd_J0_charAt_5068e : uWv yJ0_charAt_5068e RJ0 cJ0_charAt_5068e 2 (some .char) 1 := ⟨rfl, mco_J0_charAt_5068e, min_J0, mim_J0_charAt_5068e, mse_J0_charAt_5068e, by decide +kernel⟩
theorem wd_J0_checkIndex_df160 : uWs yJ0_checkIndex_df160 cJ0_checkIndex_df160 2 none 2 := ⟨mco_J0_checkIndex_df160, min_J0, mst_J0_checkIndex_df160, by decide +kernel⟩
theorem wd_J0_coder_7d493 : uWv yJ0_coder_7d493 RJ0 cJ0_coder_7d493 1 (some .byte) 0 := ⟨rfl, mco_J0_coder_7d493, min_J0, mim_J0_coder_7d493, mse_J0_coder_7d493, by decide +kernel⟩
theorem wd_J0_isLatin1_aae02 : uWv yJ0_isLatin1_aae02 RJ0 cJ0_isLatin1_aae02 1 (some .boolean) 0 := ⟨rfl, mco_J0_isLatin1_aae02, min_J0, mim_J0_isLatin1_aae02, mse_J0_isLatin1_aae02, by decide +kernel⟩
theorem wd_J0_length_8abf5 : uWv yJ0_length_8abf5 RJ0 cJ0_length_8abf5 1 (some .int) 0 := ⟨rfl, mco_J0_length_8abf5, min_J0, mim_J0_length_8abf5, mse_J0_length_8abf5, by decide +kernel⟩
theorem wd_J1_charAt_3b067 : uWs yJ1_charAt_3b067 cJ1_charAt_3b067 2 (some .char) 2 := ⟨mco_J1_charAt_3b067, min_J1, mst_J1_charAt_3b067, by decide +kernel⟩
theorem wd_J3_checkIndex_8e157 : uWs yJ3_checkIndex_8e157 cJ3_checkIndex_8e157 3 (some .int) 3 := ⟨mco_J3_checkIndex_8e157, min_J3, mst_J3_checkIndex_8e157, by decide +kernel⟩
theorem wd_J6_bitCount_0f7a4 : uWs yJ6_bitCount_0f7a4 cJ6_bitCount_0f7a4 1 (some .int) 1 := ⟨mco_J6_bitCount_0f7a4, min_J6, mst_J6_bitCount_0f7a4, by decide +kernel⟩
theorem wd_J6_numberOfTrailingZeros_0f7a4 : uWs yJ6_numberOfTrailingZeros_0f7a4 cJ6_numberOfTrailingZeros_0f7a4 2 (some .int) 1 := ⟨mco_J6_numberOfTrailingZeros_0f7a4, min_J6, mst_J6_numberOfTrailingZeros_0f7a4, by decide +kernel⟩
theorem wd_J7_fill_53178 : uWs yJ7_fill_53178 cJ7_fill_53178 4 none 2 := ⟨mco_J7_fill_53178, min_J7, mst_J7_fill_53178, by decide +kernel⟩
theorem wd_X0_begin : uWv yX0_begin RX0 cX0_begin 3 none 1 := ⟨rfl, mco_X0_begin, min_X0, mim_X0_begin, mse_X0_begin, by decide +kernel⟩
theorem wd_X0_carry : uWv yX0_carry RX0 cX0_carry 4 (some .int) 2 := ⟨rfl, mco_X0_carry, min_X0, mim_X0_carry, mse_X0_carry, by decide +kernel⟩
theorem wd_X0_carryAll : uWv yX0_carryAll RX0 cX0_carryAll 5 (some .int) 1 := ⟨rfl, mco_X0_carryAll, min_X0, mim_X0_carryAll, mse_X0_carryAll, by decide +kernel⟩
theorem wd_X0_forgetWays : uWv yX0_forgetWays RX0 cX0_forgetWays 2 none 0 := ⟨rfl, mco_X0_forgetWays, min_X0, mim_X0_forgetWays, mse_X0_forgetWays, by decide +kernel⟩
theorem wd_X0_hasStore : uWv yX0_hasStore RX0 cX0_hasStore 2 (some .boolean) 1 := ⟨rfl, mco_X0_hasStore, min_X0, mim_X0_hasStore, mse_X0_hasStore, by decide +kernel⟩
theorem wd_X0_init : uWi yX0_init cX0_init 3 2 := ⟨mco_X0_init, min_X0, mim_X0_init, rfl, by decide +kernel⟩
theorem wd_X0_lower : uWv yX0_lower RX0 cX0_lower 7 (some .boolean) 3 := ⟨rfl, mco_X0_lower, min_X0, mim_X0_lower, mse_X0_lower, by decide +kernel⟩
theorem wd_X0_lowerAll : uWv yX0_lowerAll RX0 cX0_lowerAll 8 (some .boolean) 2 := ⟨rfl, mco_X0_lowerAll, min_X0, mim_X0_lowerAll, mse_X0_lowerAll, by decide +kernel⟩
theorem wd_X0_measure : uWv yX0_measure RX0 cX0_measure 5 none 1 := ⟨rfl, mco_X0_measure, min_X0, mim_X0_measure, mse_X0_measure, by decide +kernel⟩
theorem wd_X0_measureAll : uWv yX0_measureAll RX0 cX0_measureAll 2 none 0 := ⟨rfl, mco_X0_measureAll, min_X0, mim_X0_measureAll, mse_X0_measureAll, by decide +kernel⟩
theorem wd_X0_nearestPair : uWv yX0_nearestPair RX0 cX0_nearestPair 6 (some .int) 0 := ⟨rfl, mco_X0_nearestPair, min_X0, mim_X0_nearestPair, mse_X0_nearestPair, by decide +kernel⟩
theorem wd_X0_over : uWv yX0_over RX0 cX0_over 8 (some .int) 4 := ⟨rfl, mco_X0_over, min_X0, mim_X0_over, mse_X0_over, by decide +kernel⟩
theorem wd_X0_told : uWv yX0_told RX0 cX0_told 3 (some .int) 2 := ⟨rfl, mco_X0_told, min_X0, mim_X0_told, mse_X0_told, by decide +kernel⟩
theorem wd_X10_advance : uWv yX10_advance RX10 cX10_advance 1 none 0 := ⟨rfl, mco_X10_advance, min_X10, mim_X10_advance, mse_X10_advance, by decide +kernel⟩
theorem wd_X10_append : uWv yX10_append RX10 cX10_append 3 none 1 := ⟨rfl, mco_X10_append, min_X10, mim_X10_append, mse_X10_append, by decide +kernel⟩
theorem wd_X10_hasRoom : uWv yX10_hasRoom RX10 cX10_hasRoom 1 (some .boolean) 0 := ⟨rfl, mco_X10_hasRoom, min_X10, mim_X10_hasRoom, mse_X10_hasRoom, by decide +kernel⟩
theorem wd_X10_init : uWi yX10_init cX10_init 4 0 := ⟨mco_X10_init, min_X10, mim_X10_init, rfl, by decide +kernel⟩
theorem wd_X10_isDigit : uWs yX10_isDigit cX10_isDigit 1 (some .boolean) 1 := ⟨mco_X10_isDigit, min_X10, mst_X10_isDigit, by decide +kernel⟩
theorem wd_X10_isLetter : uWs yX10_isLetter cX10_isLetter 1 (some .boolean) 1 := ⟨mco_X10_isLetter, min_X10, mst_X10_isLetter, by decide +kernel⟩
theorem wd_X10_keyOf : uWv yX10_keyOf RX10 cX10_keyOf 4 (some .int) 1 := ⟨rfl, mco_X10_keyOf, min_X10, mim_X10_keyOf, mse_X10_keyOf, by decide +kernel⟩
theorem wd_X10_start : uWv yX10_start RX10 cX10_start 2 none 1 := ⟨rfl, mco_X10_start, min_X10, mim_X10_start, mse_X10_start, by decide +kernel⟩
theorem wd_X10_takeMark : uWv yX10_takeMark RX10 cX10_takeMark 2 none 0 := ⟨rfl, mco_X10_takeMark, min_X10, mim_X10_takeMark, mse_X10_takeMark, by decide +kernel⟩
theorem wd_X10_takeName : uWv yX10_takeName RX10 cX10_takeName 1 none 0 := ⟨rfl, mco_X10_takeName, min_X10, mim_X10_takeName, mse_X10_takeName, by decide +kernel⟩
theorem wd_X10_takeNumber : uWv yX10_takeNumber RX10 cX10_takeNumber 1 none 0 := ⟨rfl, mco_X10_takeNumber, min_X10, mim_X10_takeNumber, mse_X10_takeNumber, by decide +kernel⟩
theorem wd_X10_withLetter : uWs yX10_withLetter cX10_withLetter 3 (some .long) 2 := ⟨mco_X10_withLetter, min_X10, mst_X10_withLetter, by decide +kernel⟩
theorem wd_X11_bend : uWv yX11_bend RX11 cX11_bend 2 (some .boolean) 1 := ⟨rfl, mco_X11_bend, min_X11, mim_X11_bend, mse_X11_bend, by decide +kernel⟩
theorem wd_X11_block : uWv yX11_block RX11 cX11_block 5 (some .int) 3 := ⟨rfl, mco_X11_block, min_X11, mim_X11_block, mse_X11_block, by decide +kernel⟩
theorem wd_X11_count : uWv yX11_count RX11 cX11_count 2 (some .int) 1 := ⟨rfl, mco_X11_count, min_X11, mim_X11_count, mse_X11_count, by decide +kernel⟩
theorem wd_X11_cuts : uWv yX11_cuts RX11 cX11_cuts 5 (some .int) 4 := ⟨rfl, mco_X11_cuts, min_X11, mim_X11_cuts, mse_X11_cuts, by decide +kernel⟩
theorem wd_X11_dig : uWv yX11_dig RX11 cX11_dig 1 (some .int) 0 := ⟨rfl, mco_X11_dig, min_X11, mim_X11_dig, mse_X11_dig, by decide +kernel⟩
theorem wd_X11_dug : uWv yX11_dug RX11 cX11_dug 3 (some .boolean) 2 := ⟨rfl, mco_X11_dug, min_X11, mim_X11_dug, mse_X11_dug, by decide +kernel⟩
theorem wd_X11_fault : uWv yX11_fault RX11 cX11_fault 2 (some .int) 1 := ⟨rfl, mco_X11_fault, min_X11, mim_X11_fault, mse_X11_fault, by decide +kernel⟩
theorem wd_X11_feed : uWv yX11_feed RX11 cX11_feed 6 (some .int) 5 := ⟨rfl, mco_X11_feed, min_X11, mim_X11_feed, mse_X11_feed, by decide +kernel⟩
theorem wd_X11_ground : uWv yX11_ground RX11 cX11_ground 7 (some .boolean) 6 := ⟨rfl, mco_X11_ground, min_X11, mim_X11_ground, mse_X11_ground, by decide +kernel⟩
theorem wd_X11_groups : uWv yX11_groups RX11 cX11_groups 5 (some .int) 4 := ⟨rfl, mco_X11_groups, min_X11, mim_X11_groups, mse_X11_groups, by decide +kernel⟩
theorem wd_X11_haze : uWv yX11_haze RX11 cX11_haze 5 (some .boolean) 4 := ⟨rfl, mco_X11_haze, min_X11, mim_X11_haze, mse_X11_haze, by decide +kernel⟩
theorem wd_X11_heard : uWv yX11_heard RX11 cX11_heard 4 (some .int) 3 := ⟨rfl, mco_X11_heard, min_X11, mim_X11_heard, mse_X11_heard, by decide +kernel⟩
theorem wd_X11_init : uWi yX11_init cX11_init 1 0 := ⟨mco_X11_init, min_X11, mim_X11_init, rfl, by decide +kernel⟩
theorem wd_X11_isLine : uWs yX11_isLine cX11_isLine 4 (some .boolean) 4 := ⟨mco_X11_isLine, min_X11, mst_X11_isLine, by decide +kernel⟩
theorem wd_X11_isSeason : uWs yX11_isSeason cX11_isSeason 2 (some .boolean) 2 := ⟨mco_X11_isSeason, min_X11, mst_X11_isSeason, by decide +kernel⟩
theorem wd_X11_isYear : uWs yX11_isYear cX11_isYear 1 (some .boolean) 1 := ⟨mco_X11_isYear, min_X11, mst_X11_isYear, by decide +kernel⟩
theorem wd_X11_join : uWv yX11_join RX11 cX11_join 5 (some .int) 4 := ⟨rfl, mco_X11_join, min_X11, mim_X11_join, mse_X11_join, by decide +kernel⟩
theorem wd_X11_joined : uWv yX11_joined RX11 cX11_joined 3 (some .int) 2 := ⟨rfl, mco_X11_joined, min_X11, mim_X11_joined, mse_X11_joined, by decide +kernel⟩
theorem wd_X11_land : uWv yX11_land RX11 cX11_land 3 (some .boolean) 2 := ⟨rfl, mco_X11_land, min_X11, mim_X11_land, mse_X11_land, by decide +kernel⟩
theorem wd_X11_look : uWv yX11_look RX11 cX11_look 3 (some .int) 2 := ⟨rfl, mco_X11_look, min_X11, mim_X11_look, mse_X11_look, by decide +kernel⟩
theorem wd_X11_note : uWv yX11_note RX11 cX11_note 5 (some .int) 3 := ⟨rfl, mco_X11_note, min_X11, mim_X11_note, mse_X11_note, by decide +kernel⟩
theorem wd_X11_post : uWv yX11_post RX11 cX11_post 7 (some .int) 6 := ⟨rfl, mco_X11_post, min_X11, mim_X11_post, mse_X11_post, by decide +kernel⟩
theorem wd_X11_quarrel : uWv yX11_quarrel RX11 cX11_quarrel 1 (some .int) 0 := ⟨rfl, mco_X11_quarrel, min_X11, mim_X11_quarrel, mse_X11_quarrel, by decide +kernel⟩
theorem wd_X11_raise : uWv yX11_raise RX11 cX11_raise 3 (some .int) 2 := ⟨rfl, mco_X11_raise, min_X11, mim_X11_raise, mse_X11_raise, by decide +kernel⟩
theorem wd_X11_rules : uWv yX11_rules RX11 cX11_rules 3 (some .int) 1 := ⟨rfl, mco_X11_rules, min_X11, mim_X11_rules, mse_X11_rules, by decide +kernel⟩
theorem wd_X11_send : uWv yX11_send RX11 cX11_send 6 (some .int) 5 := ⟨rfl, mco_X11_send, min_X11, mim_X11_send, mse_X11_send, by decide +kernel⟩
theorem wd_X11_sent : uWv yX11_sent RX11 cX11_sent 2 (some .int) 1 := ⟨rfl, mco_X11_sent, min_X11, mim_X11_sent, mse_X11_sent, by decide +kernel⟩
theorem wd_X11_sight : uWv yX11_sight RX11 cX11_sight 5 (some .int) 4 := ⟨rfl, mco_X11_sight, min_X11, mim_X11_sight, mse_X11_sight, by decide +kernel⟩
theorem wd_X11_stood : uWv yX11_stood RX11 cX11_stood 4 (some .int) 3 := ⟨rfl, mco_X11_stood, min_X11, mim_X11_stood, mse_X11_stood, by decide +kernel⟩
theorem wd_X11_store : uWv yX11_store RX11 cX11_store 3 (some .boolean) 2 := ⟨rfl, mco_X11_store, min_X11, mim_X11_store, mse_X11_store, by decide +kernel⟩
theorem wd_X11_strike : uWv yX11_strike RX11 cX11_strike 2 (some .int) 1 := ⟨rfl, mco_X11_strike, min_X11, mim_X11_strike, mse_X11_strike, by decide +kernel⟩
theorem wd_X11_supplied : uWv yX11_supplied RX11 cX11_supplied 3 (some .int) 2 := ⟨rfl, mco_X11_supplied, min_X11, mim_X11_supplied, mse_X11_supplied, by decide +kernel⟩
theorem wd_X11_supply : uWv yX11_supply RX11 cX11_supply 2 (some .int) 1 := ⟨rfl, mco_X11_supply, min_X11, mim_X11_supply, mse_X11_supply, by decide +kernel⟩
theorem wd_X11_trees : uWv yX11_trees RX11 cX11_trees 4 (some .boolean) 3 := ⟨rfl, mco_X11_trees, min_X11, mim_X11_trees, mse_X11_trees, by decide +kernel⟩
theorem wd_X11_way : uWv yX11_way RX11 cX11_way 3 (some .int) 2 := ⟨rfl, mco_X11_way, min_X11, mim_X11_way, mse_X11_way, by decide +kernel⟩
theorem wd_X11_years : uWv yX11_years RX11 cX11_years 4 (some .int) 3 := ⟨rfl, mco_X11_years, min_X11, mim_X11_years, mse_X11_years, by decide +kernel⟩
theorem wd_X12_act : uWv yX12_act RX12 cX12_act 4 none 1 := ⟨rfl, mco_X12_act, min_X12, mim_X12_act, mse_X12_act, by decide +kernel⟩
theorem wd_X12_ahead : uWv yX12_ahead RX12 cX12_ahead 3 none 2 := ⟨rfl, mco_X12_ahead, min_X12, mim_X12_ahead, mse_X12_ahead, by decide +kernel⟩
theorem wd_X12_areSame : uWv yX12_areSame RX12 cX12_areSame 4 (some .boolean) 2 := ⟨rfl, mco_X12_areSame, min_X12, mim_X12_areSame, mse_X12_areSame, by decide +kernel⟩
theorem wd_X12_areTwo : uWv yX12_areTwo RX12 cX12_areTwo 3 (some .boolean) 2 := ⟨rfl, mco_X12_areTwo, min_X12, mim_X12_areTwo, mse_X12_areTwo, by decide +kernel⟩
theorem wd_X12_bend : uWv yX12_bend RX12 cX12_bend 2 (some .boolean) 1 := ⟨rfl, mco_X12_bend, min_X12, mim_X12_bend, mse_X12_bend, by decide +kernel⟩
theorem wd_X12_block : uWv yX12_block RX12 cX12_block 4 (some .int) 3 := ⟨rfl, mco_X12_block, min_X12, mim_X12_block, mse_X12_block, by decide +kernel⟩
theorem wd_X12_blockOf : uWv yX12_blockOf RX12 cX12_blockOf 8 (some .int) 3 := ⟨rfl, mco_X12_blockOf, min_X12, mim_X12_blockOf, mse_X12_blockOf, by decide +kernel⟩
theorem wd_X12_bounds : uWv yX12_bounds RX12 cX12_bounds 4 none 3 := ⟨rfl, mco_X12_bounds, min_X12, mim_X12_bounds, mse_X12_bounds, by decide +kernel⟩
theorem wd_X12_cellAt : uWv yX12_cellAt RX12 cX12_cellAt 7 (some .int) 3 := ⟨rfl, mco_X12_cellAt, min_X12, mim_X12_cellAt, mse_X12_cellAt, by decide +kernel⟩
theorem wd_X12_cellOf : uWv yX12_cellOf RX12 cX12_cellOf 2 (some .int) 1 := ⟨rfl, mco_X12_cellOf, min_X12, mim_X12_cellOf, mse_X12_cellOf, by decide +kernel⟩
theorem wd_X12_clearsRules : uWv yX12_clearsRules RX12 cX12_clearsRules 3 none 1 := ⟨rfl, mco_X12_clearsRules, min_X12, mim_X12_clearsRules, mse_X12_clearsRules, by decide +kernel⟩
theorem wd_X12_count : uWv yX12_count RX12 cX12_count 2 (some .int) 1 := ⟨rfl, mco_X12_count, min_X12, mim_X12_count, mse_X12_count, by decide +kernel⟩
theorem wd_X12_cut : uWs yX12_cut cX12_cut 3 (some .int) 2 := ⟨mco_X12_cut, min_X12, mst_X12_cut, by decide +kernel⟩
theorem wd_X12_cuts : uWv yX12_cuts RX12 cX12_cuts 8 (some .int) 4 := ⟨rfl, mco_X12_cuts, min_X12, mim_X12_cuts, mse_X12_cuts, by decide +kernel⟩
theorem wd_X12_dig : uWv yX12_dig RX12 cX12_dig 6 (some .int) 0 := ⟨rfl, mco_X12_dig, min_X12, mim_X12_dig, mse_X12_dig, by decide +kernel⟩
theorem wd_X12_does : uWv yX12_does RX12 cX12_does 9 none 5 := ⟨rfl, mco_X12_does, min_X12, mim_X12_does, mse_X12_does, by decide +kernel⟩
theorem wd_X12_dug : uWv yX12_dug RX12 cX12_dug 3 (some .boolean) 2 := ⟨rfl, mco_X12_dug, min_X12, mim_X12_dug, mse_X12_dug, by decide +kernel⟩
theorem wd_X12_eye : uWv yX12_eye RX12 cX12_eye 3 (some .int) 2 := ⟨rfl, mco_X12_eye, min_X12, mim_X12_eye, mse_X12_eye, by decide +kernel⟩
theorem wd_X12_fault : uWv yX12_fault RX12 cX12_fault 2 (some .int) 1 := ⟨rfl, mco_X12_fault, min_X12, mim_X12_fault, mse_X12_fault, by decide +kernel⟩
theorem wd_X12_feed : uWv yX12_feed RX12 cX12_feed 8 (some .int) 5 := ⟨rfl, mco_X12_feed, min_X12, mim_X12_feed, mse_X12_feed, by decide +kernel⟩
theorem wd_X12_ground : uWv yX12_ground RX12 cX12_ground 9 (some .boolean) 6 := ⟨rfl, mco_X12_ground, min_X12, mim_X12_ground, mse_X12_ground, by decide +kernel⟩
theorem wd_X12_groups : uWv yX12_groups RX12 cX12_groups 5 (some .int) 4 := ⟨rfl, mco_X12_groups, min_X12, mim_X12_groups, mse_X12_groups, by decide +kernel⟩
theorem wd_X12_groupsOf : uWv yX12_groupsOf RX12 cX12_groupsOf 5 (some .int) 1 := ⟨rfl, mco_X12_groupsOf, min_X12, mim_X12_groupsOf, mse_X12_groupsOf, by decide +kernel⟩
theorem wd_X12_haze : uWv yX12_haze RX12 cX12_haze 5 (some .boolean) 4 := ⟨rfl, mco_X12_haze, min_X12, mim_X12_haze, mse_X12_haze, by decide +kernel⟩
theorem wd_X12_heard : uWv yX12_heard RX12 cX12_heard 5 (some .int) 3 := ⟨rfl, mco_X12_heard, min_X12, mim_X12_heard, mse_X12_heard, by decide +kernel⟩
theorem wd_X12_heardPosts : uWv yX12_heardPosts RX12 cX12_heardPosts 5 (some .int) 0 := ⟨rfl, mco_X12_heardPosts, min_X12, mim_X12_heardPosts, mse_X12_heardPosts, by decide +kernel⟩
theorem wd_X12_hears : uWv yX12_hears RX12 cX12_hears 8 none 5 := ⟨rfl, mco_X12_hears, min_X12, mim_X12_hears, mse_X12_hears, by decide +kernel⟩
theorem wd_X12_here : uWv yX12_here RX12 cX12_here 1 (some .int) 0 := ⟨rfl, mco_X12_here, min_X12, mim_X12_here, mse_X12_here, by decide +kernel⟩
theorem wd_X12_init : uWi yX12_init cX12_init 2 0 := ⟨mco_X12_init, min_X12, mim_X12_init, rfl, by decide +kernel⟩
theorem wd_X12_isAsked : uWs yX12_isAsked cX12_isAsked 3 (some .boolean) 3 := ⟨mco_X12_isAsked, min_X12, mst_X12_isAsked, by decide +kernel⟩
theorem wd_X12_isDigit : uWs yX12_isDigit cX12_isDigit 1 (some .boolean) 1 := ⟨mco_X12_isDigit, min_X12, mst_X12_isDigit, by decide +kernel⟩
theorem wd_X12_isDim : uWv yX12_isDim RX12 cX12_isDim 4 (some .boolean) 2 := ⟨rfl, mco_X12_isDim, min_X12, mim_X12_isDim, mse_X12_isDim, by decide +kernel⟩
theorem wd_X12_isDue : uWv yX12_isDue RX12 cX12_isDue 4 (some .boolean) 3 := ⟨rfl, mco_X12_isDue, min_X12, mim_X12_isDue, mse_X12_isDue, by decide +kernel⟩
theorem wd_X12_isKnown : uWv yX12_isKnown RX12 cX12_isKnown 2 (some .boolean) 1 := ⟨rfl, mco_X12_isKnown, min_X12, mim_X12_isKnown, mse_X12_isKnown, by decide +kernel⟩
theorem wd_X12_isLevel : uWs yX12_isLevel cX12_isLevel 1 (some .boolean) 1 := ⟨mco_X12_isLevel, min_X12, mst_X12_isLevel, by decide +kernel⟩
theorem wd_X12_isNear : uWv yX12_isNear RX12 cX12_isNear 6 (some .boolean) 3 := ⟨rfl, mco_X12_isNear, min_X12, mim_X12_isNear, mse_X12_isNear, by decide +kernel⟩
theorem wd_X12_isPost : uWv yX12_isPost RX12 cX12_isPost 2 (some .boolean) 1 := ⟨rfl, mco_X12_isPost, min_X12, mim_X12_isPost, mse_X12_isPost, by decide +kernel⟩
theorem wd_X12_isReserved : uWv yX12_isReserved RX12 cX12_isReserved 2 (some .boolean) 1 := ⟨rfl, mco_X12_isReserved, min_X12, mim_X12_isReserved, mse_X12_isReserved, by decide +kernel⟩
theorem wd_X12_isSmall : uWs yX12_isSmall cX12_isSmall 1 (some .boolean) 1 := ⟨mco_X12_isSmall, min_X12, mst_X12_isSmall, by decide +kernel⟩
theorem wd_X12_isTime : uWs yX12_isTime cX12_isTime 2 (some .boolean) 2 := ⟨mco_X12_isTime, min_X12, mst_X12_isTime, by decide +kernel⟩
theorem wd_X12_join : uWv yX12_join RX12 cX12_join 7 (some .int) 4 := ⟨rfl, mco_X12_join, min_X12, mim_X12_join, mse_X12_join, by decide +kernel⟩
theorem wd_X12_joined : uWv yX12_joined RX12 cX12_joined 3 (some .int) 2 := ⟨rfl, mco_X12_joined, min_X12, mim_X12_joined, mse_X12_joined, by decide +kernel⟩
theorem wd_X12_joins : uWv yX12_joins RX12 cX12_joins 3 (some .boolean) 1 := ⟨rfl, mco_X12_joins, min_X12, mim_X12_joins, mse_X12_joins, by decide +kernel⟩
theorem wd_X12_knows : uWv yX12_knows RX12 cX12_knows 4 (some .boolean) 1 := ⟨rfl, mco_X12_knows, min_X12, mim_X12_knows, mse_X12_knows, by decide +kernel⟩
theorem wd_X12_land : uWv yX12_land RX12 cX12_land 4 (some .boolean) 2 := ⟨rfl, mco_X12_land, min_X12, mim_X12_land, mse_X12_land, by decide +kernel⟩
theorem wd_X12_line : uWv yX12_line RX12 cX12_line 2 none 0 := ⟨rfl, mco_X12_line, min_X12, mim_X12_line, mse_X12_line, by decide +kernel⟩
theorem wd_X12_lines : uWv yX12_lines RX12 cX12_lines 9 none 4 := ⟨rfl, mco_X12_lines, min_X12, mim_X12_lines, mse_X12_lines, by decide +kernel⟩
theorem wd_X12_linkOf : uWv yX12_linkOf RX12 cX12_linkOf 5 (some .int) 4 := ⟨rfl, mco_X12_linkOf, min_X12, mim_X12_linkOf, mse_X12_linkOf, by decide +kernel⟩
theorem wd_X12_look : uWv yX12_look RX12 cX12_look 3 (some .int) 2 := ⟨rfl, mco_X12_look, min_X12, mim_X12_look, mse_X12_look, by decide +kernel⟩
theorem wd_X12_looks : uWv yX12_looks RX12 cX12_looks 4 none 1 := ⟨rfl, mco_X12_looks, min_X12, mim_X12_looks, mse_X12_looks, by decide +kernel⟩
theorem wd_X12_many : uWs yX12_many cX12_many 3 (some .int) 1 := ⟨mco_X12_many, min_X12, mst_X12_many, by decide +kernel⟩
theorem wd_X12_name : uWv yX12_name RX12 cX12_name 3 (some .long) 0 := ⟨rfl, mco_X12_name, min_X12, mim_X12_name, mse_X12_name, by decide +kernel⟩
theorem wd_X12_next : uWv yX12_next RX12 cX12_next 2 none 0 := ⟨rfl, mco_X12_next, min_X12, mim_X12_next, mse_X12_next, by decide +kernel⟩
theorem wd_X12_nextCarry : uWv yX12_nextCarry RX12 cX12_nextCarry 4 (some .int) 0 := ⟨rfl, mco_X12_nextCarry, min_X12, mim_X12_nextCarry, mse_X12_nextCarry, by decide +kernel⟩
theorem wd_X12_nextSeen : uWv yX12_nextSeen RX12 cX12_nextSeen 3 (some .int) 0 := ⟨rfl, mco_X12_nextSeen, min_X12, mim_X12_nextSeen, mse_X12_nextSeen, by decide +kernel⟩
theorem wd_X12_note : uWv yX12_note RX12 cX12_note 5 (some .int) 3 := ⟨rfl, mco_X12_note, min_X12, mim_X12_note, mse_X12_note, by decide +kernel⟩
theorem wd_X12_notes : uWv yX12_notes RX12 cX12_notes 4 (some .int) 3 := ⟨rfl, mco_X12_notes, min_X12, mim_X12_notes, mse_X12_notes, by decide +kernel⟩
theorem wd_X12_number : uWv yX12_number RX12 cX12_number 4 (some .int) 2 := ⟨rfl, mco_X12_number, min_X12, mim_X12_number, mse_X12_number, by decide +kernel⟩
theorem wd_X12_order : uWv yX12_order RX12 cX12_order 3 none 0 := ⟨rfl, mco_X12_order, min_X12, mim_X12_order, mse_X12_order, by decide +kernel⟩
theorem wd_X12_orders : uWv yX12_orders RX12 cX12_orders 4 none 3 := ⟨rfl, mco_X12_orders, min_X12, mim_X12_orders, mse_X12_orders, by decide +kernel⟩
theorem wd_X12_post : uWv yX12_post RX12 cX12_post 8 (some .int) 6 := ⟨rfl, mco_X12_post, min_X12, mim_X12_post, mse_X12_post, by decide +kernel⟩
theorem wd_X12_puts : uWv yX12_puts RX12 cX12_puts 5 none 4 := ⟨rfl, mco_X12_puts, min_X12, mim_X12_puts, mse_X12_puts, by decide +kernel⟩
theorem wd_X12_quarrel : uWv yX12_quarrel RX12 cX12_quarrel 2 (some .int) 0 := ⟨rfl, mco_X12_quarrel, min_X12, mim_X12_quarrel, mse_X12_quarrel, by decide +kernel⟩
theorem wd_X12_raise : uWv yX12_raise RX12 cX12_raise 12 (some .int) 2 := ⟨rfl, mco_X12_raise, min_X12, mim_X12_raise, mse_X12_raise, by decide +kernel⟩
theorem wd_X12_reached : uWv yX12_reached RX12 cX12_reached 6 (some .int) 2 := ⟨rfl, mco_X12_reached, min_X12, mim_X12_reached, mse_X12_reached, by decide +kernel⟩
theorem wd_X12_reaches : uWv yX12_reaches RX12 cX12_reaches 3 none 2 := ⟨rfl, mco_X12_reaches, min_X12, mim_X12_reaches, mse_X12_reaches, by decide +kernel⟩
theorem wd_X12_readAs : uWv yX12_readAs RX12 cX12_readAs 3 (some .int) 1 := ⟨rfl, mco_X12_readAs, min_X12, mim_X12_readAs, mse_X12_readAs, by decide +kernel⟩
theorem wd_X12_reserved : uWv yX12_reserved RX12 cX12_reserved 4 (some .int) 0 := ⟨rfl, mco_X12_reserved, min_X12, mim_X12_reserved, mse_X12_reserved, by decide +kernel⟩
theorem wd_X12_resolves : uWv yX12_resolves RX12 cX12_resolves 4 none 0 := ⟨rfl, mco_X12_resolves, min_X12, mim_X12_resolves, mse_X12_resolves, by decide +kernel⟩
theorem wd_X12_rules : uWv yX12_rules RX12 cX12_rules 2 (some .int) 1 := ⟨rfl, mco_X12_rules, min_X12, mim_X12_rules, mse_X12_rules, by decide +kernel⟩
theorem wd_X12_send : uWv yX12_send RX12 cX12_send 8 (some .int) 5 := ⟨rfl, mco_X12_send, min_X12, mim_X12_send, mse_X12_send, by decide +kernel⟩
theorem wd_X12_sends : uWv yX12_sends RX12 cX12_sends 8 none 5 := ⟨rfl, mco_X12_sends, min_X12, mim_X12_sends, mse_X12_sends, by decide +kernel⟩
theorem wd_X12_sent : uWv yX12_sent RX12 cX12_sent 2 (some .int) 1 := ⟨rfl, mco_X12_sent, min_X12, mim_X12_sent, mse_X12_sent, by decide +kernel⟩
theorem wd_X12_shareOf : uWv yX12_shareOf RX12 cX12_shareOf 4 (some .int) 1 := ⟨rfl, mco_X12_shareOf, min_X12, mim_X12_shareOf, mse_X12_shareOf, by decide +kernel⟩
theorem wd_X12_sight : uWv yX12_sight RX12 cX12_sight 5 (some .int) 4 := ⟨rfl, mco_X12_sight, min_X12, mim_X12_sight, mse_X12_sight, by decide +kernel⟩
theorem wd_X12_sightOf : uWv yX12_sightOf RX12 cX12_sightOf 5 (some .int) 4 := ⟨rfl, mco_X12_sightOf, min_X12, mim_X12_sightOf, mse_X12_sightOf, by decide +kernel⟩
theorem wd_X12_spanOf : uWv yX12_spanOf RX12 cX12_spanOf 3 (some .int) 2 := ⟨rfl, mco_X12_spanOf, min_X12, mim_X12_spanOf, mse_X12_spanOf, by decide +kernel⟩
theorem wd_X12_spreads : uWv yX12_spreads RX12 cX12_spreads 6 none 1 := ⟨rfl, mco_X12_spreads, min_X12, mim_X12_spreads, mse_X12_spreads, by decide +kernel⟩
theorem wd_X12_stands : uWv yX12_stands RX12 cX12_stands 2 (some .boolean) 1 := ⟨rfl, mco_X12_stands, min_X12, mim_X12_stands, mse_X12_stands, by decide +kernel⟩
theorem wd_X12_stepCost : uWv yX12_stepCost RX12 cX12_stepCost 4 (some .int) 2 := ⟨rfl, mco_X12_stepCost, min_X12, mim_X12_stepCost, mse_X12_stepCost, by decide +kernel⟩
theorem wd_X12_stood : uWv yX12_stood RX12 cX12_stood 4 (some .int) 3 := ⟨rfl, mco_X12_stood, min_X12, mim_X12_stood, mse_X12_stood, by decide +kernel⟩
theorem wd_X12_stoodIn : uWv yX12_stoodIn RX12 cX12_stoodIn 3 (some .int) 2 := ⟨rfl, mco_X12_stoodIn, min_X12, mim_X12_stoodIn, mse_X12_stoodIn, by decide +kernel⟩
theorem wd_X12_store : uWv yX12_store RX12 cX12_store 3 (some .boolean) 2 := ⟨rfl, mco_X12_store, min_X12, mim_X12_store, mse_X12_store, by decide +kernel⟩
theorem wd_X12_strike : uWv yX12_strike RX12 cX12_strike 2 (some .int) 1 := ⟨rfl, mco_X12_strike, min_X12, mim_X12_strike, mse_X12_strike, by decide +kernel⟩
theorem wd_X12_supplied : uWv yX12_supplied RX12 cX12_supplied 3 (some .int) 2 := ⟨rfl, mco_X12_supplied, min_X12, mim_X12_supplied, mse_X12_supplied, by decide +kernel⟩
theorem wd_X12_supply : uWv yX12_supply RX12 cX12_supply 7 (some .int) 1 := ⟨rfl, mco_X12_supply, min_X12, mim_X12_supply, mse_X12_supply, by decide +kernel⟩
theorem wd_X12_takes : uWv yX12_takes RX12 cX12_takes 4 none 0 := ⟨rfl, mco_X12_takes, min_X12, mim_X12_takes, mse_X12_takes, by decide +kernel⟩
theorem wd_X12_topAt : uWv yX12_topAt RX12 cX12_topAt 6 (some .int) 4 := ⟨rfl, mco_X12_topAt, min_X12, mim_X12_topAt, mse_X12_topAt, by decide +kernel⟩
theorem wd_X12_trees : uWv yX12_trees RX12 cX12_trees 4 (some .boolean) 3 := ⟨rfl, mco_X12_trees, min_X12, mim_X12_trees, mse_X12_trees, by decide +kernel⟩
theorem wd_X12_wants : uWv yX12_wants RX12 cX12_wants 2 none 1 := ⟨rfl, mco_X12_wants, min_X12, mim_X12_wants, mse_X12_wants, by decide +kernel⟩
theorem wd_X12_wasSupposed : uWv yX12_wasSupposed RX12 cX12_wasSupposed 2 (some .boolean) 1 := ⟨rfl, mco_X12_wasSupposed, min_X12, mim_X12_wasSupposed, mse_X12_wasSupposed, by decide +kernel⟩
theorem wd_X12_way : uWv yX12_way RX12 cX12_way 3 (some .int) 2 := ⟨rfl, mco_X12_way, min_X12, mim_X12_way, mse_X12_way, by decide +kernel⟩
theorem wd_X12_word : uWv yX12_word RX12 cX12_word 4 none 0 := ⟨rfl, mco_X12_word, min_X12, mim_X12_word, mse_X12_word, by decide +kernel⟩
theorem wd_X12_wordOf : uWv yX12_wordOf RX12 cX12_wordOf 6 (some .int) 3 := ⟨rfl, mco_X12_wordOf, min_X12, mim_X12_wordOf, mse_X12_wordOf, by decide +kernel⟩
theorem wd_X12_wrong : uWv yX12_wrong RX12 cX12_wrong 2 none 1 := ⟨rfl, mco_X12_wrong, min_X12, mim_X12_wrong, mse_X12_wrong, by decide +kernel⟩
theorem wd_X12_wrongAt : uWv yX12_wrongAt RX12 cX12_wrongAt 3 none 2 := ⟨rfl, mco_X12_wrongAt, min_X12, mim_X12_wrongAt, mse_X12_wrongAt, by decide +kernel⟩
theorem wd_X12_years : uWv yX12_years RX12 cX12_years 4 (some .int) 3 := ⟨rfl, mco_X12_years, min_X12, mim_X12_years, mse_X12_years, by decide +kernel⟩
theorem wd_X1_cutBits : uWv yX1_cutBits RX1 cX1_cutBits 4 (some .int) 0 := ⟨rfl, mco_X1_cutBits, min_X1, mim_X1_cutBits, mse_X1_cutBits, by decide +kernel⟩
theorem wd_X1_draw : uWv yX1_draw RX1 cX1_draw 9 none 5 := ⟨rfl, mco_X1_draw, min_X1, mim_X1_draw, mse_X1_draw, by decide +kernel⟩
theorem wd_X1_groupsAmong : uWv yX1_groupsAmong RX1 cX1_groupsAmong 5 (some .int) 1 := ⟨rfl, mco_X1_groupsAmong, min_X1, mim_X1_groupsAmong, mse_X1_groupsAmong, by decide +kernel⟩
theorem wd_X1_init : uWi yX1_init cX1_init 4 3 := ⟨mco_X1_init, min_X1, mim_X1_init, rfl, by decide +kernel⟩
theorem wd_X1_isOneWith : uWv yX1_isOneWith RX1 cX1_isOneWith 3 (some .boolean) 1 := ⟨rfl, mco_X1_isOneWith, min_X1, mim_X1_isOneWith, mse_X1_isOneWith, by decide +kernel⟩
theorem wd_X1_reach : uWv yX1_reach RX1 cX1_reach 8 (some .int) 2 := ⟨rfl, mco_X1_reach, min_X1, mim_X1_reach, mse_X1_reach, by decide +kernel⟩
theorem wd_X1_standingAs : uWv yX1_standingAs RX1 cX1_standingAs 6 (some .int) 3 := ⟨rfl, mco_X1_standingAs, min_X1, mim_X1_standingAs, mse_X1_standingAs, by decide +kernel⟩
theorem wd_X1_tie : uWv yX1_tie RX1 cX1_tie 5 none 4 := ⟨rfl, mco_X1_tie, min_X1, mim_X1_tie, mse_X1_tie, by decide +kernel⟩
theorem wd_X2_bit : uWs yX2_bit cX2_bit 1 (some .int) 1 := ⟨mco_X2_bit, min_X2, mst_X2_bit, by decide +kernel⟩
theorem wd_X2_carryOut : uWv yX2_carryOut RX2 cX2_carryOut 11 none 5 := ⟨rfl, mco_X2_carryOut, min_X2, mim_X2_carryOut, mse_X2_carryOut, by decide +kernel⟩
theorem wd_X2_hear : uWv yX2_hear RX2 cX2_hear 8 none 5 := ⟨rfl, mco_X2_hear, min_X2, mim_X2_hear, mse_X2_hear, by decide +kernel⟩
theorem wd_X2_hearing : uWv yX2_hearing RX2 cX2_hearing 5 (some .int) 3 := ⟨rfl, mco_X2_hearing, min_X2, mim_X2_hearing, mse_X2_hearing, by decide +kernel⟩
theorem wd_X2_init : uWi yX2_init cX2_init 3 2 := ⟨mco_X2_init, min_X2, mim_X2_init, rfl, by decide +kernel⟩
theorem wd_X2_lookAt : uWv yX2_lookAt RX2 cX2_lookAt 7 none 1 := ⟨rfl, mco_X2_lookAt, min_X2, mim_X2_lookAt, mse_X2_lookAt, by decide +kernel⟩
theorem wd_X2_nextOrder : uWv yX2_nextOrder RX2 cX2_nextOrder 7 (some .int) 2 := ⟨rfl, mco_X2_nextOrder, min_X2, mim_X2_nextOrder, mse_X2_nextOrder, by decide +kernel⟩
theorem wd_X2_postsThatHeard : uWv yX2_postsThatHeard RX2 cX2_postsThatHeard 3 (some .int) 0 := ⟨rfl, mco_X2_postsThatHeard, min_X2, mim_X2_postsThatHeard, mse_X2_postsThatHeard, by decide +kernel⟩
theorem wd_X2_queue : uWv yX2_queue RX2 cX2_queue 7 none 4 := ⟨rfl, mco_X2_queue, min_X2, mim_X2_queue, mse_X2_queue, by decide +kernel⟩
theorem wd_X2_run : uWv yX2_run RX2 cX2_run 5 (some .int) 3 := ⟨rfl, mco_X2_run, min_X2, mim_X2_run, mse_X2_run, by decide +kernel⟩
theorem wd_X2_show : uWv yX2_show RX2 cX2_show 6 none 4 := ⟨rfl, mco_X2_show, min_X2, mim_X2_show, mse_X2_show, by decide +kernel⟩
theorem wd_X3_add : uWv yX3_add RX3 cX3_add 4 (some .int) 3 := ⟨rfl, mco_X3_add, min_X3, mim_X3_add, mse_X3_add, by decide +kernel⟩
theorem wd_X3_begin : uWs yX3_begin cX3_begin 1 (some .int) 1 := ⟨mco_X3_begin, min_X3, mst_X3_begin, by decide +kernel⟩
theorem wd_X3_boundsMeet : uWv yX3_boundsMeet RX3 cX3_boundsMeet 2 (some .boolean) 0 := ⟨rfl, mco_X3_boundsMeet, min_X3, mim_X3_boundsMeet, mse_X3_boundsMeet, by decide +kernel⟩
theorem wd_X3_canKnow : uWv yX3_canKnow RX3 cX3_canKnow 2 (some .boolean) 1 := ⟨rfl, mco_X3_canKnow, min_X3, mim_X3_canKnow, mse_X3_canKnow, by decide +kernel⟩
theorem wd_X3_clear : uWv yX3_clear RX3 cX3_clear 1 none 0 := ⟨rfl, mco_X3_clear, min_X3, mim_X3_clear, mse_X3_clear, by decide +kernel⟩
theorem wd_X3_draw : uWv yX3_draw RX3 cX3_draw 4 (some .boolean) 1 := ⟨rfl, mco_X3_draw, min_X3, mim_X3_draw, mse_X3_draw, by decide +kernel⟩
theorem wd_X3_edge : uWv yX3_edge RX3 cX3_edge 4 (some .int) 2 := ⟨rfl, mco_X3_edge, min_X3, mim_X3_edge, mse_X3_edge, by decide +kernel⟩
theorem wd_X3_end : uWs yX3_end cX3_end 1 (some .int) 1 := ⟨mco_X3_end, min_X3, mst_X3_end, by decide +kernel⟩
theorem wd_X3_firstQuarrel : uWv yX3_firstQuarrel RX3 cX3_firstQuarrel 2 (some .int) 0 := ⟨rfl, mco_X3_firstQuarrel, min_X3, mim_X3_firstQuarrel, mse_X3_firstQuarrel, by decide +kernel⟩
theorem wd_X3_handOn : uWv yX3_handOn RX3 cX3_handOn 4 (some .boolean) 1 := ⟨rfl, mco_X3_handOn, min_X3, mim_X3_handOn, mse_X3_handOn, by decide +kernel⟩
theorem wd_X3_inOrder : uWv yX3_inOrder RX3 cX3_inOrder 4 (some .boolean) 2 := ⟨rfl, mco_X3_inOrder, min_X3, mim_X3_inOrder, mse_X3_inOrder, by decide +kernel⟩
theorem wd_X3_init : uWi yX3_init cX3_init 1 0 := ⟨mco_X3_init, min_X3, mim_X3_init, rfl, by decide +kernel⟩
theorem wd_X3_markStruck : uWv yX3_markStruck RX3 cX3_markStruck 3 none 1 := ⟨rfl, mco_X3_markStruck, min_X3, mim_X3_markStruck, mse_X3_markStruck, by decide +kernel⟩
theorem wd_X3_notAfter : uWv yX3_notAfter RX3 cX3_notAfter 3 none 2 := ⟨rfl, mco_X3_notAfter, min_X3, mim_X3_notAfter, mse_X3_notAfter, by decide +kernel⟩
theorem wd_X3_notBefore : uWv yX3_notBefore RX3 cX3_notBefore 3 none 2 := ⟨rfl, mco_X3_notBefore, min_X3, mim_X3_notBefore, mse_X3_notBefore, by decide +kernel⟩
theorem wd_X3_setBounds : uWv yX3_setBounds RX3 cX3_setBounds 3 none 1 := ⟨rfl, mco_X3_setBounds, min_X3, mim_X3_setBounds, mse_X3_setBounds, by decide +kernel⟩
theorem wd_X3_standing : uWv yX3_standing RX3 cX3_standing 3 (some .int) 2 := ⟨rfl, mco_X3_standing, min_X3, mim_X3_standing, mse_X3_standing, by decide +kernel⟩
theorem wd_X4_add : uWv yX4_add RX4 cX4_add 7 (some .int) 6 := ⟨rfl, mco_X4_add, min_X4, mim_X4_add, mse_X4_add, by decide +kernel⟩
theorem wd_X4_arePair : uWv yX4_arePair RX4 cX4_arePair 3 (some .boolean) 2 := ⟨rfl, mco_X4_arePair, min_X4, mim_X4_arePair, mse_X4_arePair, by decide +kernel⟩
theorem wd_X4_eyeOf : uWv yX4_eyeOf RX4 cX4_eyeOf 3 (some .int) 2 := ⟨rfl, mco_X4_eyeOf, min_X4, mim_X4_eyeOf, mse_X4_eyeOf, by decide +kernel⟩
theorem wd_X4_has : uWv yX4_has RX4 cX4_has 2 (some .boolean) 1 := ⟨rfl, mco_X4_has, min_X4, mim_X4_has, mse_X4_has, by decide +kernel⟩
theorem wd_X4_init : uWi yX4_init cX4_init 2 1 := ⟨mco_X4_init, min_X4, mim_X4_init, rfl, by decide +kernel⟩
theorem wd_X4_isTaken : uWv yX4_isTaken RX4 cX4_isTaken 4 (some .boolean) 2 := ⟨rfl, mco_X4_isTaken, min_X4, mim_X4_isTaken, mse_X4_isTaken, by decide +kernel⟩
theorem wd_X4_stands : uWv yX4_stands RX4 cX4_stands 2 (some .boolean) 1 := ⟨rfl, mco_X4_stands, min_X4, mim_X4_stands, mse_X4_stands, by decide +kernel⟩
theorem wd_X4_trait : uWv yX4_trait RX4 cX4_trait 3 (some .int) 2 := ⟨rfl, mco_X4_trait, min_X4, mim_X4_trait, mse_X4_trait, by decide +kernel⟩
theorem wd_X5_atName : uWv yX5_atName RX5 cX5_atName 1 (some .boolean) 0 := ⟨rfl, mco_X5_atName, min_X5, mim_X5_atName, mse_X5_atName, by decide +kernel⟩
theorem wd_X5_atNumber : uWv yX5_atNumber RX5 cX5_atNumber 3 (some .boolean) 2 := ⟨rfl, mco_X5_atNumber, min_X5, mim_X5_atNumber, mse_X5_atNumber, by decide +kernel⟩
theorem wd_X5_begin : uWv yX5_begin RX5 cX5_begin 2 none 1 := ⟨rfl, mco_X5_begin, min_X5, mim_X5_begin, mse_X5_begin, by decide +kernel⟩
theorem wd_X5_exchange : uWv yX5_exchange RX5 cX5_exchange 3 (some (.object "FrontierDesk$Rules")) 1 := ⟨rfl, mco_X5_exchange, min_X5, mim_X5_exchange, mse_X5_exchange, by decide +kernel⟩
theorem wd_X5_fail : uWv yX5_fail RX5 cX5_fail 3 (some .boolean) 2 := ⟨rfl, mco_X5_fail, min_X5, mim_X5_fail, mse_X5_fail, by decide +kernel⟩
theorem wd_X5_findActWords : uWv yX5_findActWords RX5 cX5_findActWords 5 (some .boolean) 1 := ⟨rfl, mco_X5_findActWords, min_X5, mim_X5_findActWords, mse_X5_findActWords, by decide +kernel⟩
theorem wd_X5_findOrderWords : uWv yX5_findOrderWords RX5 cX5_findOrderWords 3 (some .boolean) 0 := ⟨rfl, mco_X5_findOrderWords, min_X5, mim_X5_findOrderWords, mse_X5_findOrderWords, by decide +kernel⟩
theorem wd_X5_init : uWi yX5_init cX5_init 2 1 := ⟨mco_X5_init, min_X5, mim_X5_init, rfl, by decide +kernel⟩
theorem wd_X5_passKey : uWv yX5_passKey RX5 cX5_passKey 2 (some .boolean) 1 := ⟨rfl, mco_X5_passKey, min_X5, mim_X5_passKey, mse_X5_passKey, by decide +kernel⟩
theorem wd_X5_passMark : uWv yX5_passMark RX5 cX5_passMark 2 (some .boolean) 1 := ⟨rfl, mco_X5_passMark, min_X5, mim_X5_passMark, mse_X5_passMark, by decide +kernel⟩
theorem wd_X5_read : uWv yX5_read RX5 cX5_read 5 (some .boolean) 1 := ⟨rfl, mco_X5_read, min_X5, mim_X5_read, mse_X5_read, by decide +kernel⟩
theorem wd_X5_readAct : uWv yX5_readAct RX5 cX5_readAct 4 (some .boolean) 1 := ⟨rfl, mco_X5_readAct, min_X5, mim_X5_readAct, mse_X5_readAct, by decide +kernel⟩
theorem wd_X5_readActs : uWv yX5_readActs RX5 cX5_readActs 3 (some .boolean) 1 := ⟨rfl, mco_X5_readActs, min_X5, mim_X5_readActs, mse_X5_readActs, by decide +kernel⟩
theorem wd_X5_readLike : uWv yX5_readLike RX5 cX5_readLike 2 (some .boolean) 0 := ⟨rfl, mco_X5_readLike, min_X5, mim_X5_readLike, mse_X5_readLike, by decide +kernel⟩
theorem wd_X5_readLook : uWv yX5_readLook RX5 cX5_readLook 1 (some .boolean) 0 := ⟨rfl, mco_X5_readLook, min_X5, mim_X5_readLook, mse_X5_readLook, by decide +kernel⟩
theorem wd_X5_readMinutes : uWv yX5_readMinutes RX5 cX5_readMinutes 1 (some .boolean) 0 := ⟨rfl, mco_X5_readMinutes, min_X5, mim_X5_readMinutes, mse_X5_readMinutes, by decide +kernel⟩
theorem wd_X5_readOrder : uWv yX5_readOrder RX5 cX5_readOrder 3 (some .boolean) 1 := ⟨rfl, mco_X5_readOrder, min_X5, mim_X5_readOrder, mse_X5_readOrder, by decide +kernel⟩
theorem wd_X5_readSend : uWv yX5_readSend RX5 cX5_readSend 2 (some .boolean) 1 := ⟨rfl, mco_X5_readSend, min_X5, mim_X5_readSend, mse_X5_readSend, by decide +kernel⟩
theorem wd_X5_readWait : uWv yX5_readWait RX5 cX5_readWait 2 (some .boolean) 1 := ⟨rfl, mco_X5_readWait, min_X5, mim_X5_readWait, mse_X5_readWait, by decide +kernel⟩
theorem wd_X5_readWord : uWv yX5_readWord RX5 cX5_readWord 6 (some .boolean) 0 := ⟨rfl, mco_X5_readWord, min_X5, mim_X5_readWord, mse_X5_readWord, by decide +kernel⟩
theorem wd_X6_clear : uWv yX6_clear RX6 cX6_clear 1 none 0 := ⟨rfl, mco_X6_clear, min_X6, mim_X6_clear, mse_X6_clear, by decide +kernel⟩
theorem wd_X6_countShares : uWv yX6_countShares RX6 cX6_countShares 3 none 0 := ⟨rfl, mco_X6_countShares, min_X6, mim_X6_countShares, mse_X6_countShares, by decide +kernel⟩
theorem wd_X6_find : uWv yX6_find RX6 cX6_find 2 (some .int) 1 := ⟨rfl, mco_X6_find, min_X6, mim_X6_find, mse_X6_find, by decide +kernel⟩
theorem wd_X6_gather : uWv yX6_gather RX6 cX6_gather 6 none 1 := ⟨rfl, mco_X6_gather, min_X6, mim_X6_gather, mse_X6_gather, by decide +kernel⟩
theorem wd_X6_init : uWi yX6_init cX6_init 1 0 := ⟨mco_X6_init, min_X6, mim_X6_init, rfl, by decide +kernel⟩
theorem wd_X6_nextToDig : uWv yX6_nextToDig RX6 cX6_nextToDig 5 (some .int) 0 := ⟨rfl, mco_X6_nextToDig, min_X6, mim_X6_nextToDig, mse_X6_nextToDig, by decide +kernel⟩
theorem wd_X6_take : uWv yX6_take RX6 cX6_take 3 none 2 := ⟨rfl, mco_X6_take, min_X6, mim_X6_take, mse_X6_take, by decide +kernel⟩
theorem wd_X7_addLike : uWv yX7_addLike RX7 cX7_addLike 6 none 2 := ⟨rfl, mco_X7_addLike, min_X7, mim_X7_addLike, mse_X7_addLike, by decide +kernel⟩
theorem wd_X7_addWord : uWv yX7_addWord RX7 cX7_addWord 5 none 3 := ⟨rfl, mco_X7_addWord, min_X7, mim_X7_addWord, mse_X7_addWord, by decide +kernel⟩
theorem wd_X7_clear : uWv yX7_clear RX7 cX7_clear 2 none 0 := ⟨rfl, mco_X7_clear, min_X7, mim_X7_clear, mse_X7_clear, by decide +kernel⟩
theorem wd_X7_init : uWi yX7_init cX7_init 1 0 := ⟨mco_X7_init, min_X7, mim_X7_init, rfl, by decide +kernel⟩
theorem wd_X7_minutesToSend : uWv yX7_minutesToSend RX7 cX7_minutesToSend 2 (some .int) 1 := ⟨rfl, mco_X7_minutesToSend, min_X7, mim_X7_minutesToSend, mse_X7_minutesToSend, by decide +kernel⟩
theorem wd_X7_readDimly : uWv yX7_readDimly RX7 cX7_readDimly 6 (some .int) 1 := ⟨rfl, mco_X7_readDimly, min_X7, mim_X7_readDimly, mse_X7_readDimly, by decide +kernel⟩
theorem wd_X7_wordNamed : uWv yX7_wordNamed RX7 cX7_wordNamed 4 (some .int) 1 := ⟨rfl, mco_X7_wordNamed, min_X7, mim_X7_wordNamed, mse_X7_wordNamed, by decide +kernel⟩
theorem wd_X7_wordOfRow : uWv yX7_wordOfRow RX7 cX7_wordOfRow 3 (some .int) 1 := ⟨rfl, mco_X7_wordOfRow, min_X7, mim_X7_wordOfRow, mse_X7_wordOfRow, by decide +kernel⟩
theorem wd_X8_between : uWs yX8_between cX8_between 4 (some .int) 4 := ⟨mco_X8_between, min_X8, mst_X8_between, by decide +kernel⟩
theorem wd_X8_excess : uWv yX8_excess RX8 cX8_excess 11 (some .int) 5 := ⟨rfl, mco_X8_excess, min_X8, mim_X8_excess, mse_X8_excess, by decide +kernel⟩
theorem wd_X8_firstShut : uWv yX8_firstShut RX8 cX8_firstShut 6 (some .int) 3 := ⟨rfl, mco_X8_firstShut, min_X8, mim_X8_firstShut, mse_X8_firstShut, by decide +kernel⟩
theorem wd_X8_init : uWi yX8_init cX8_init 3 2 := ⟨mco_X8_init, min_X8, mim_X8_init, rfl, by decide +kernel⟩
theorem wd_X8_levelOf : uWv yX8_levelOf RX8 cX8_levelOf 6 (some .int) 4 := ⟨rfl, mco_X8_levelOf, min_X8, mim_X8_levelOf, mse_X8_levelOf, by decide +kernel⟩
theorem wd_X8_linkOf : uWv yX8_linkOf RX8 cX8_linkOf 6 (some .int) 4 := ⟨rfl, mco_X8_linkOf, min_X8, mim_X8_linkOf, mse_X8_linkOf, by decide +kernel⟩
theorem wd_X8_metresLacking : uWv yX8_metresLacking RX8 cX8_metresLacking 8 (some .int) 2 := ⟨rfl, mco_X8_metresLacking, min_X8, mim_X8_metresLacking, mse_X8_metresLacking, by decide +kernel⟩
theorem wd_X8_numberAt : uWv yX8_numberAt RX8 cX8_numberAt 7 (some .int) 3 := ⟨rfl, mco_X8_numberAt, min_X8, mim_X8_numberAt, mse_X8_numberAt, by decide +kernel⟩
theorem wd_X8_reaches : uWv yX8_reaches RX8 cX8_reaches 6 (some .boolean) 3 := ⟨rfl, mco_X8_reaches, min_X8, mim_X8_reaches, mse_X8_reaches, by decide +kernel⟩
theorem wd_X8_span : uWv yX8_span RX8 cX8_span 5 (some .int) 2 := ⟨rfl, mco_X8_span, min_X8, mim_X8_span, mse_X8_span, by decide +kernel⟩
theorem wd_X9_cell : uWs yX9_cell cX9_cell 2 (some .int) 2 := ⟨mco_X9_cell, min_X9, mst_X9_cell, by decide +kernel⟩
theorem wd_X9_curve : uWv yX9_curve RX9 cX9_curve 2 (some .boolean) 1 := ⟨rfl, mco_X9_curve, min_X9, mim_X9_curve, mse_X9_curve, by decide +kernel⟩
theorem wd_X9_has : uWv yX9_has RX9 cX9_has 3 (some .boolean) 2 := ⟨rfl, mco_X9_has, min_X9, mim_X9_has, mse_X9_has, by decide +kernel⟩
theorem wd_X9_init : uWi yX9_init cX9_init 1 0 := ⟨mco_X9_init, min_X9, mim_X9_init, rfl, by decide +kernel⟩
theorem wd_X9_lay : uWv yX9_lay RX9 cX9_lay 9 (some .boolean) 6 := ⟨rfl, mco_X9_lay, min_X9, mim_X9_lay, mse_X9_lay, by decide +kernel⟩
theorem wd_X9_plant : uWv yX9_plant RX9 cX9_plant 4 (some .boolean) 3 := ⟨rfl, mco_X9_plant, min_X9, mim_X9_plant, mse_X9_plant, by decide +kernel⟩
theorem wd_X9_renew : uWv yX9_renew RX9 cX9_renew 3 (some .boolean) 2 := ⟨rfl, mco_X9_renew, min_X9, mim_X9_renew, mse_X9_renew, by decide +kernel⟩
theorem wd_X9_topAt : uWv yX9_topAt RX9 cX9_topAt 4 (some .int) 2 := ⟨rfl, mco_X9_topAt, min_X9, mim_X9_topAt, mse_X9_topAt, by decide +kernel⟩
theorem wd_X9_veil : uWv yX9_veil RX9 cX9_veil 5 (some .boolean) 4 := ⟨rfl, mco_X9_veil, min_X9, mim_X9_veil, mse_X9_veil, by decide +kernel⟩

/-! Names: classes, fields, methods, words, decode rows; by wip/whole/tools/names.py out of the task. -/
def RX0 : String := "PrimeCurveSigner$Curve"
def RX1 : String := "PrimeCurveSigner"
def RX2 : String := "PrimeCurveSignerModel"
def RJM : String := "java/lang/Math"
def RJA : String := "java/util/Arrays"
def RL : String := "PrimeCurveSignerLaw"
def TX0 : u_T := fun k => match k with
  | 0 => ("PrimeCurveSigner$Curve", "p", "I", true)
  | 1 => ("PrimeCurveSigner$Curve", "a", "I", true)
  | 2 => ("PrimeCurveSigner$Curve", "b", "I", true)
  | 3 => ("PrimeCurveSigner$Curve", "n", "I", true)
  | _ => ("PrimeCurveSigner$Curve", "basePoint", "I", true)
def tyX0 : Nat → FieldType := fun k => match k with
  | 0 => .int
  | 1 => .int
  | 2 => .int
  | 3 => .int
  | _ => .int
theorem nmX0 : ∀ a, a < 5 → ∀ b, b < 5 → a ≠ b → (TX0 a).2.1 ≠ (TX0 b).2.1 := by decide +kernel
theorem tyX0_ok : ∀ k, k < 5 → parseFieldDescriptor (TX0 k).2.2.1 = some (tyX0 k) := by decide +kernel
def TX1 : u_T := fun k => match k with
  | 0 => ("PrimeCurveSigner", "registers", "[I", true)
  | 1 => ("PrimeCurveSigner", "rootCounts", "[I", true)
  | 2 => ("PrimeCurveSigner", "taken", "LPrimeCurveSigner$Curve;", false)
  | 3 => ("PrimeCurveSigner", "secret", "I", false)
  | _ => ("PrimeCurveSigner", "latestDraws", "I", false)
def tyX1 : Nat → FieldType := fun k => match k with
  | 0 => .array .int
  | 1 => .array .int
  | 2 => .object "PrimeCurveSigner$Curve"
  | 3 => .int
  | _ => .int
theorem nmX1 : ∀ a, a < 5 → ∀ b, b < 5 → a ≠ b → (TX1 a).2.1 ≠ (TX1 b).2.1 := by decide +kernel
theorem tyX1_ok : ∀ k, k < 5 → parseFieldDescriptor (TX1 k).2.2.1 = some (tyX1 k) := by decide +kernel
def TX2 : u_T := fun k => match k with
  | 0 => ("PrimeCurveSignerModel", "p", "I", false)
  | 1 => ("PrimeCurveSignerModel", "a", "I", false)
  | 2 => ("PrimeCurveSignerModel", "b", "I", false)
  | 3 => ("PrimeCurveSignerModel", "n", "I", false)
  | 4 => ("PrimeCurveSignerModel", "key", "I", false)
  | 5 => ("PrimeCurveSignerModel", "draws", "I", false)
  | 6 => ("PrimeCurveSignerModel", "thrown", "I", false)
  | 7 => ("PrimeCurveSignerModel", "tableX", "[I", false)
  | 8 => ("PrimeCurveSignerModel", "tableY", "[I", false)
  | 9 => ("PrimeCurveSignerModel", "register", "[I", false)
  | 10 => ("PrimeCurveSignerModel", "roots", "[I", false)
  | 11 => ("PrimeCurveSignerModel", "sumX", "I", false)
  | 12 => ("PrimeCurveSignerModel", "sumY", "I", false)
  | 13 => ("PrimeCurveSignerModel", "drawK", "I", false)
  | _ => ("PrimeCurveSignerModel", "drawV", "I", false)
def tyX2 : Nat → FieldType := fun k => match k with
  | 0 => .int
  | 1 => .int
  | 2 => .int
  | 3 => .int
  | 4 => .int
  | 5 => .int
  | 6 => .int
  | 7 => .array .int
  | 8 => .array .int
  | 9 => .array .int
  | 10 => .array .int
  | 11 => .int
  | 12 => .int
  | 13 => .int
  | _ => .int
theorem nmX2 : ∀ a, a < 15 → ∀ b, b < 15 → a ≠ b → (TX2 a).2.1 ≠ (TX2 b).2.1 := by decide +kernel
theorem tyX2_ok : ∀ k, k < 15 → parseFieldDescriptor (TX2 k).2.2.1 = some (tyX2 k) := by decide +kernel
abbrev clX : List vw_C := [(RX0, TX0, 5), (RX1, TX1, 5), (RX2, TX2, 15)]
abbrev cX1_init : ByteArray := prog_1_method_1_code
def yX1_init : MethodName := ⟨RX1, "<init>", "()V"⟩
abbrev cJA_fill : ByteArray := prog_14_method_103_code
def yJA_fill : MethodName := ⟨RJA, "fill", "([II)V"⟩
abbrev cX1_order : ByteArray := prog_1_method_3_code
def yX1_order : MethodName := ⟨RX1, "order", "()I"⟩
abbrev cX1_draws : ByteArray := prog_1_method_14_code
def yX1_draws : MethodName := ⟨RX1, "draws", "()I"⟩
abbrev cL_curve : ByteArray := method_3_code
def yL_curve : MethodName := ⟨RL, "curve", "(LPrimeCurveSigner;III[J)I"⟩
abbrev cX1_curve : ByteArray := prog_1_method_2_code
def yX1_curve : MethodName := ⟨RX1, "curve", "(III)I"⟩
abbrev cX1_isCurve : ByteArray := prog_1_method_19_code
def yX1_isCurve : MethodName := ⟨RX1, "isCurve", "(III)Z"⟩
abbrev cX1_isPrime : ByteArray := prog_1_method_20_code
def yX1_isPrime : MethodName := ⟨RX1, "isPrime", "(I)Z"⟩
abbrev cX1_countPoints : ByteArray := prog_1_method_21_code
def yX1_countPoints : MethodName := ⟨RX1, "countPoints", "(III)I"⟩
abbrev cX1_cubic : ByteArray := prog_1_method_22_code
def yX1_cubic : MethodName := ⟨RX1, "cubic", "(IIII)I"⟩
abbrev cX0_init : ByteArray := prog_2_method_1_code
def yX0_init : MethodName := ⟨RX0, "<init>", "(IIII)V"⟩
abbrev cX0_leastPoint : ByteArray := prog_2_method_2_code
def yX0_leastPoint : MethodName := ⟨RX0, "leastPoint", "(III)I"⟩
abbrev cX0_lesserRoot : ByteArray := prog_2_method_3_code
def yX0_lesserRoot : MethodName := ⟨RX0, "lesserRoot", "(II)I"⟩
abbrev cX1_pointAt : ByteArray := prog_1_method_23_code
def yX1_pointAt : MethodName := ⟨RX1, "pointAt", "(II)I"⟩
abbrev cL_load : ByteArray := method_4_code
def yL_load : MethodName := ⟨RL, "load", "(LPrimeCurveSigner;III)I"⟩
abbrev cX1_load : ByteArray := prog_1_method_4_code
def yX1_load : MethodName := ⟨RX1, "load", "(III)V"⟩
abbrev cX1_takenCurve : ByteArray := prog_1_method_17_code
def yX1_takenCurve : MethodName := ⟨RX1, "takenCurve", "()LPrimeCurveSigner$Curve;"⟩
abbrev cX1_checkRegister : ByteArray := prog_1_method_18_code
def yX1_checkRegister : MethodName := ⟨RX1, "checkRegister", "(I)V"⟩
abbrev cX0_holds : ByteArray := prog_2_method_4_code
def yX0_holds : MethodName := ⟨RX0, "holds", "(II)Z"⟩
abbrev cL_base : ByteArray := method_5_code
def yL_base : MethodName := ⟨RL, "base", "(LPrimeCurveSigner;I)I"⟩
abbrev cX1_base : ByteArray := prog_1_method_5_code
def yX1_base : MethodName := ⟨RX1, "base", "(I)V"⟩
abbrev cL_sum : ByteArray := method_6_code
def yL_sum : MethodName := ⟨RL, "sum", "(LPrimeCurveSigner;III)I"⟩
abbrev cX1_sum : ByteArray := prog_1_method_6_code
def yX1_sum : MethodName := ⟨RX1, "sum", "(III)V"⟩
abbrev cX0_plus : ByteArray := prog_2_method_7_code
def yX0_plus : MethodName := ⟨RX0, "plus", "(II)I"⟩
abbrev cX1_xOf : ByteArray := prog_1_method_24_code
def yX1_xOf : MethodName := ⟨RX1, "xOf", "(I)I"⟩
abbrev cX1_yOf : ByteArray := prog_1_method_25_code
def yX1_yOf : MethodName := ⟨RX1, "yOf", "(I)I"⟩
abbrev cX0_slope : ByteArray := prog_2_method_8_code
def yX0_slope : MethodName := ⟨RX0, "slope", "(II)I"⟩
abbrev cX1_quotient : ByteArray := prog_1_method_29_code
def yX1_quotient : MethodName := ⟨RX1, "quotient", "(III)I"⟩
abbrev cJM_floorModI : ByteArray := prog_10_method_50_code
def yJM_floorModI : MethodName := ⟨RJM, "floorMod", "(II)I"⟩
abbrev cX1_inverse : ByteArray := prog_1_method_30_code
def yX1_inverse : MethodName := ⟨RX1, "inverse", "(II)I"⟩
abbrev cL_times : ByteArray := method_7_code
def yL_times : MethodName := ⟨RL, "times", "(LPrimeCurveSigner;III)I"⟩
abbrev cX1_times : ByteArray := prog_1_method_7_code
def yX1_times : MethodName := ⟨RX1, "times", "(III)V"⟩
abbrev cX0_multiple : ByteArray := prog_2_method_9_code
def yX0_multiple : MethodName := ⟨RX0, "multiple", "(II)I"⟩
abbrev cL_x : ByteArray := method_8_code
def yL_x : MethodName := ⟨RL, "x", "(LPrimeCurveSigner;I[J)I"⟩
abbrev cX1_x : ByteArray := prog_1_method_8_code
def yX1_x : MethodName := ⟨RX1, "x", "(I)I"⟩
abbrev cL_y : ByteArray := method_9_code
def yL_y : MethodName := ⟨RL, "y", "(LPrimeCurveSigner;I[J)I"⟩
abbrev cX1_y : ByteArray := prog_1_method_9_code
def yX1_y : MethodName := ⟨RX1, "y", "(I)I"⟩
abbrev cL_code : ByteArray := method_10_code
def yL_code : MethodName := ⟨RL, "code", "(LPrimeCurveSigner;IZ[J)I"⟩
abbrev cX1_code : ByteArray := prog_1_method_10_code
def yX1_code : MethodName := ⟨RX1, "code", "(IZ)J"⟩
abbrev cX1_shortNumber : ByteArray := prog_1_method_26_code
def yX1_shortNumber : MethodName := ⟨RX1, "shortNumber", "(I)J"⟩
abbrev cX1_plainNumber : ByteArray := prog_1_method_27_code
def yX1_plainNumber : MethodName := ⟨RX1, "plainNumber", "(I)J"⟩
abbrev cL_decode : ByteArray := method_11_code
def yL_decode : MethodName := ⟨RL, "decode", "(LPrimeCurveSigner;IIJ)I"⟩
abbrev cX1_decode : ByteArray := prog_1_method_11_code
def yX1_decode : MethodName := ⟨RX1, "decode", "(IIJ)V"⟩
abbrev cX0_pointOfBytes : ByteArray := prog_2_method_10_code
def yX0_pointOfBytes : MethodName := ⟨RX0, "pointOfBytes", "(IJ)I"⟩
abbrev cX0_pointOfShort : ByteArray := prog_2_method_11_code
def yX0_pointOfShort : MethodName := ⟨RX0, "pointOfShort", "(J)I"⟩
abbrev cX0_pointOfPlain : ByteArray := prog_2_method_12_code
def yX0_pointOfPlain : MethodName := ⟨RX0, "pointOfPlain", "(J)I"⟩
abbrev cL_key : ByteArray := method_12_code
def yL_key : MethodName := ⟨RL, "key", "(LPrimeCurveSigner;II)I"⟩
abbrev cX1_key : ByteArray := prog_1_method_12_code
def yX1_key : MethodName := ⟨RX1, "key", "(II)V"⟩
abbrev cX0_isUnit : ByteArray := prog_2_method_5_code
def yX0_isUnit : MethodName := ⟨RX0, "isUnit", "(I)Z"⟩
abbrev cL_sign : ByteArray := method_13_code
def yL_sign : MethodName := ⟨RL, "sign", "(LPrimeCurveSigner;J[J)I"⟩
abbrev cX1_sign : ByteArray := prog_1_method_13_code
def yX1_sign : MethodName := ⟨RX1, "sign", "(J)J"⟩
abbrev cX0_messageResidue : ByteArray := prog_2_method_6_code
def yX0_messageResidue : MethodName := ⟨RX0, "messageResidue", "(J)I"⟩
abbrev cJM_floorModJ : ByteArray := prog_10_method_52_code
def yJM_floorModJ : MethodName := ⟨RJM, "floorMod", "(JJ)J"⟩
abbrev cX0_drawMask : ByteArray := prog_2_method_13_code
def yX0_drawMask : MethodName := ⟨RX0, "drawMask", "()I"⟩
abbrev cX1_mix : ByteArray := prog_1_method_28_code
def yX1_mix : MethodName := ⟨RX1, "mix", "(II)I"⟩
abbrev cX0_signatureFrom : ByteArray := prog_2_method_14_code
def yX0_signatureFrom : MethodName := ⟨RX0, "signatureFrom", "(III)J"⟩
abbrev cL_verify : ByteArray := method_14_code
def yL_verify : MethodName := ⟨RL, "verify", "(LPrimeCurveSigner;IJII[J)I"⟩
abbrev cX1_verify : ByteArray := prog_1_method_15_code
def yX1_verify : MethodName := ⟨RX1, "verify", "(IJII)Z"⟩
abbrev cX0_fits : ByteArray := prog_2_method_15_code
def yX0_fits : MethodName := ⟨RX0, "fits", "(IJII)Z"⟩
abbrev cL_accepts : ByteArray := method_15_code
def yL_accepts : MethodName := ⟨RL, "accepts", "(LPrimeCurveSigner;IJJII[J)I"⟩
abbrev cX1_accepts : ByteArray := prog_1_method_16_code
def yX1_accepts : MethodName := ⟨RX1, "accepts", "(IJJII)Z"⟩
abbrev cX2_init : ByteArray := prog_4_method_1_code
def yX2_init : MethodName := ⟨RX2, "<init>", "()V"⟩
abbrev cX2_thrown : ByteArray := prog_4_method_2_code
def yX2_thrown : MethodName := ⟨RX2, "thrown", "()I"⟩
abbrev cX2_curve : ByteArray := prog_4_method_10_code
def yX2_curve : MethodName := ⟨RX2, "curve", "(III)I"⟩
abbrev cX2_count : ByteArray := prog_4_method_7_code
def yX2_count : MethodName := ⟨RX2, "count", "(III)I"⟩
abbrev cX2_prime : ByteArray := prog_4_method_5_code
def yX2_prime : MethodName := ⟨RX2, "prime", "(I)Z"⟩
abbrev cX2_cube : ByteArray := prog_4_method_6_code
def yX2_cube : MethodName := ⟨RX2, "cube", "(IIII)I"⟩
abbrev cX2_good : ByteArray := prog_4_method_4_code
def yX2_good : MethodName := ⟨RX2, "good", "(ZZZ)Z"⟩
abbrev cX2_findBase : ByteArray := prog_4_method_11_code
def yX2_findBase : MethodName := ⟨RX2, "findBase", "()V"⟩
abbrev cX2_add : ByteArray := prog_4_method_9_code
def yX2_add : MethodName := ⟨RX2, "add", "(IIII)V"⟩
abbrev cX2_inverse : ByteArray := prog_4_method_8_code
def yX2_inverse : MethodName := ⟨RX2, "inverse", "(II)I"⟩
abbrev cX2_order : ByteArray := prog_4_method_12_code
def yX2_order : MethodName := ⟨RX2, "order", "()I"⟩
abbrev cX2_load : ByteArray := prog_4_method_14_code
def yX2_load : MethodName := ⟨RX2, "load", "(III)V"⟩
abbrev cX2_find : ByteArray := prog_4_method_13_code
def yX2_find : MethodName := ⟨RX2, "find", "(II)I"⟩
abbrev cX2_noRegister : ByteArray := prog_4_method_3_code
def yX2_noRegister : MethodName := ⟨RX2, "noRegister", "(I)Z"⟩
abbrev cX2_base : ByteArray := prog_4_method_15_code
def yX2_base : MethodName := ⟨RX2, "base", "(I)V"⟩
abbrev cX2_sum : ByteArray := prog_4_method_16_code
def yX2_sum : MethodName := ⟨RX2, "sum", "(III)V"⟩
abbrev cX2_times : ByteArray := prog_4_method_18_code
def yX2_times : MethodName := ⟨RX2, "times", "(III)V"⟩
abbrev cX2_modulo : ByteArray := prog_4_method_17_code
def yX2_modulo : MethodName := ⟨RX2, "modulo", "(J)I"⟩
abbrev cX2_x : ByteArray := prog_4_method_19_code
def yX2_x : MethodName := ⟨RX2, "x", "(I)I"⟩
abbrev cX2_y : ByteArray := prog_4_method_20_code
def yX2_y : MethodName := ⟨RX2, "y", "(I)I"⟩
abbrev cX2_code : ByteArray := prog_4_method_23_code
def yX2_code : MethodName := ⟨RX2, "code", "(IZ)J"⟩
abbrev cX2_bytesOf : ByteArray := prog_4_method_21_code
def yX2_bytesOf : MethodName := ⟨RX2, "bytesOf", "(IZ)J"⟩
abbrev cX2_decode : ByteArray := prog_4_method_24_code
def yX2_decode : MethodName := ⟨RX2, "decode", "(IIJ)V"⟩
abbrev cX2_read : ByteArray := prog_4_method_22_code
def yX2_read : MethodName := ⟨RX2, "read", "(IJ)I"⟩
abbrev cX2_key : ByteArray := prog_4_method_25_code
def yX2_key : MethodName := ⟨RX2, "key", "(II)V"⟩
abbrev cX2_sign : ByteArray := prog_4_method_28_code
def yX2_sign : MethodName := ⟨RX2, "sign", "(J)J"⟩
abbrev cX2_stir : ByteArray := prog_4_method_27_code
def yX2_stir : MethodName := ⟨RX2, "stir", "(I)V"⟩
abbrev cX2_mix : ByteArray := prog_4_method_26_code
def yX2_mix : MethodName := ⟨RX2, "mix", "(II)I"⟩
abbrev cX2_draws : ByteArray := prog_4_method_29_code
def yX2_draws : MethodName := ⟨RX2, "draws", "()I"⟩
abbrev cX2_verify : ByteArray := prog_4_method_31_code
def yX2_verify : MethodName := ⟨RX2, "verify", "(IJII)Z"⟩
abbrev cX2_fits : ByteArray := prog_4_method_30_code
def yX2_fits : MethodName := ⟨RX2, "fits", "(IJII)Z"⟩
abbrev cX2_accepts : ByteArray := prog_4_method_32_code
def yX2_accepts : MethodName := ⟨RX2, "accepts", "(IJJII)Z"⟩
/-- all the tables' words that every state keeps: each method's own list is its code and these -/
def AW : List Cond := lw_tbl.filter goodWord
theorem aw_tbl {w : Cond} (h : w ∈ AW) : w ∈ lw_tbl := (List.mem_filter.mp h).1
theorem aw_of {w : Cond} (h : w ∈ lw_tbl) (g : goodWord w = true) : w ∈ AW := List.mem_filter.mpr ⟨h, g⟩
theorem aw_in {c d : Cond} (h : d ∈ AW) : GoodIn (c :: AW) (d :: AW) := by
  intro w hw
  have hA : w ∈ AW := by
    rcases List.mem_cons.mp hw with rfl | hw
    · exact h
    · exact hw
  exact ⟨List.mem_cons_of_mem _ hA, good_of_word (List.mem_filter.mp hA).2⟩
theorem aw_ina {d : Cond} (h : d ∈ AW) : GoodIn AW (d :: AW) := by
  intro w hw
  have hA : w ∈ AW := by
    rcases List.mem_cons.mp hw with rfl | hw
    · exact h
    · exact hw
  exact ⟨hA, good_of_word (List.mem_filter.mp hA).2⟩
theorem aw_i_L : Cond.initialized RL ∈ AW := aw_of (List.mem_of_getElem? (i := 21) (by decide +kernel)) (by decide +kernel)
theorem aw_i_X1 : Cond.initialized RX1 ∈ AW := aw_of (List.mem_of_getElem? (i := 22) (by decide +kernel)) (by decide +kernel)
theorem aw_i_JA : Cond.initialized RJA ∈ AW := aw_of (List.mem_of_getElem? (i := 23) (by decide +kernel)) (by decide +kernel)
theorem aw_i_X2 : Cond.initialized RX2 ∈ AW := aw_of (List.mem_of_getElem? (i := 24) (by decide +kernel)) (by decide +kernel)
theorem aw_i_X0 : Cond.initialized RX0 ∈ AW := aw_of (List.mem_of_getElem? (i := 29) (by decide +kernel)) (by decide +kernel)
theorem aw_i_JM : Cond.initialized RJM ∈ AW := aw_of (List.mem_of_getElem? (i := 32) (by decide +kernel)) (by decide +kernel)
theorem aw_c_L_8 : Cond.classLink RL 8 RX1 ∈ AW := aw_of (List.mem_of_getElem? (i := 34) (by decide +kernel)) (by decide +kernel)
theorem aw_n_X1 : Cond.instantiable RX1 5 ∈ AW := aw_of (List.mem_of_getElem? (i := 35) (by decide +kernel)) (by decide +kernel)
theorem aw_m_L_66 : Cond.methodLink RL 66 yX1_init ∈ AW := aw_of (List.mem_of_getElem? (i := 36) (by decide +kernel)) (by decide +kernel)
theorem aw_v_X1_init : Cond.instanceMethod yX1_init ∈ AW := aw_of (List.mem_of_getElem? (i := 37) (by decide +kernel)) (by decide +kernel)
theorem aw_b_X1_init : Cond.code yX1_init cX1_init 1 none ∈ AW := aw_of (List.mem_of_getElem? (i := 38) (by decide +kernel)) (by decide +kernel)
theorem aw_m_X1_1 : Cond.methodLink RX1 1 objectInit ∈ AW := aw_of (List.mem_of_getElem? (i := 39) (by decide +kernel)) (by decide +kernel)
theorem aw_o_inst : Cond.instanceMethod objectInit ∈ AW := aw_of (List.mem_of_getElem? (i := 40) (by decide +kernel)) (by decide +kernel)
theorem aw_o_code : Cond.code objectInit ⟨#[0xb1]⟩ 1 none ∈ AW := aw_of (List.mem_of_getElem? (i := 41) (by decide +kernel)) (by decide +kernel)
theorem aw_m_X1_16 : Cond.methodLink RX1 16 yJA_fill ∈ AW := aw_of (List.mem_of_getElem? (i := 42) (by decide +kernel)) (by decide +kernel)
theorem aw_s_JA_fill : Cond.static yJA_fill ∈ AW := aw_of (List.mem_of_getElem? (i := 43) (by decide +kernel)) (by decide +kernel)
theorem aw_b_JA_fill : Cond.code yJA_fill cJA_fill 4 none ∈ AW := aw_of (List.mem_of_getElem? (i := 44) (by decide +kernel)) (by decide +kernel)
theorem aw_f_X1_9 : Cond.fieldLink RX1 9 "PrimeCurveSigner" "registers" "[I" ∈ AW := aw_of (List.mem_of_getElem? (i := 45) (by decide +kernel)) (by decide +kernel)
theorem aw_f_X1_13 : Cond.fieldLink RX1 13 "PrimeCurveSigner" "rootCounts" "[I" ∈ AW := aw_of (List.mem_of_getElem? (i := 46) (by decide +kernel)) (by decide +kernel)
theorem aw_f_X1_22 : Cond.fieldLink RX1 22 "PrimeCurveSigner" "taken" "LPrimeCurveSigner$Curve;" ∈ AW := aw_of (List.mem_of_getElem? (i := 47) (by decide +kernel)) (by decide +kernel)
theorem aw_f_X1_26 : Cond.fieldLink RX1 26 "PrimeCurveSigner" "secret" "I" ∈ AW := aw_of (List.mem_of_getElem? (i := 48) (by decide +kernel)) (by decide +kernel)
theorem aw_f_X1_30 : Cond.fieldLink RX1 30 "PrimeCurveSigner" "latestDraws" "I" ∈ AW := aw_of (List.mem_of_getElem? (i := 49) (by decide +kernel)) (by decide +kernel)
theorem aw_a_int : Cond.arrayClass .int ∈ AW := aw_of (List.mem_of_getElem? (i := 61) (by decide +kernel)) (by decide +kernel)
theorem aw_m_L_80 : Cond.methodLink RL 80 yX1_order ∈ AW := aw_of (List.mem_of_getElem? (i := 62) (by decide +kernel)) (by decide +kernel)
theorem aw_v_X1_order : Cond.instanceMethod yX1_order ∈ AW := aw_of (List.mem_of_getElem? (i := 63) (by decide +kernel)) (by decide +kernel)
theorem aw_e_X1_order : Cond.selects RX1 yX1_order yX1_order ∈ AW := aw_of (List.mem_of_getElem? (i := 64) (by decide +kernel)) (by decide +kernel)
theorem aw_b_X1_order : Cond.code yX1_order cX1_order 1 (some .int) ∈ AW := aw_of (List.mem_of_getElem? (i := 65) (by decide +kernel)) (by decide +kernel)
theorem aw_m_L_123 : Cond.methodLink RL 123 yX1_draws ∈ AW := aw_of (List.mem_of_getElem? (i := 66) (by decide +kernel)) (by decide +kernel)
theorem aw_v_X1_draws : Cond.instanceMethod yX1_draws ∈ AW := aw_of (List.mem_of_getElem? (i := 67) (by decide +kernel)) (by decide +kernel)
theorem aw_e_X1_draws : Cond.selects RX1 yX1_draws yX1_draws ∈ AW := aw_of (List.mem_of_getElem? (i := 68) (by decide +kernel)) (by decide +kernel)
theorem aw_b_X1_draws : Cond.code yX1_draws cX1_draws 1 (some .int) ∈ AW := aw_of (List.mem_of_getElem? (i := 69) (by decide +kernel)) (by decide +kernel)
theorem aw_m_L_70 : Cond.methodLink RL 70 yL_curve ∈ AW := aw_of (List.mem_of_getElem? (i := 70) (by decide +kernel)) (by decide +kernel)
theorem aw_s_L_curve : Cond.static yL_curve ∈ AW := aw_of (List.mem_of_getElem? (i := 71) (by decide +kernel)) (by decide +kernel)
theorem aw_c_L_13 : Cond.classLink RL 13 "java/lang/IllegalArgumentException" ∈ AW := aw_of (List.mem_of_getElem? (i := 73) (by decide +kernel)) (by decide +kernel)
theorem aw_m_L_7 : Cond.methodLink RL 7 yX1_curve ∈ AW := aw_of (List.mem_of_getElem? (i := 74) (by decide +kernel)) (by decide +kernel)
theorem aw_v_X1_curve : Cond.instanceMethod yX1_curve ∈ AW := aw_of (List.mem_of_getElem? (i := 75) (by decide +kernel)) (by decide +kernel)
theorem aw_e_X1_curve : Cond.selects RX1 yX1_curve yX1_curve ∈ AW := aw_of (List.mem_of_getElem? (i := 76) (by decide +kernel)) (by decide +kernel)
theorem aw_b_X1_curve : Cond.code yX1_curve cX1_curve 5 (some .int) ∈ AW := aw_of (List.mem_of_getElem? (i := 77) (by decide +kernel)) (by decide +kernel)
theorem aw_m_X1_33 : Cond.methodLink RX1 33 yX1_isCurve ∈ AW := aw_of (List.mem_of_getElem? (i := 78) (by decide +kernel)) (by decide +kernel)
theorem aw_s_X1_isCurve : Cond.static yX1_isCurve ∈ AW := aw_of (List.mem_of_getElem? (i := 79) (by decide +kernel)) (by decide +kernel)
theorem aw_b_X1_isCurve : Cond.code yX1_isCurve cX1_isCurve 3 (some .boolean) ∈ AW := aw_of (List.mem_of_getElem? (i := 80) (by decide +kernel)) (by decide +kernel)
theorem aw_m_X1_48 : Cond.methodLink RX1 48 yX1_isPrime ∈ AW := aw_of (List.mem_of_getElem? (i := 81) (by decide +kernel)) (by decide +kernel)
theorem aw_s_X1_isPrime : Cond.static yX1_isPrime ∈ AW := aw_of (List.mem_of_getElem? (i := 82) (by decide +kernel)) (by decide +kernel)
theorem aw_b_X1_isPrime : Cond.code yX1_isPrime cX1_isPrime 2 (some .boolean) ∈ AW := aw_of (List.mem_of_getElem? (i := 83) (by decide +kernel)) (by decide +kernel)
theorem aw_c_X1_37 : Cond.classLink RX1 37 "java/lang/IllegalArgumentException" ∈ AW := aw_of (List.mem_of_getElem? (i := 84) (by decide +kernel)) (by decide +kernel)
theorem aw_a_byte : Cond.arrayClass .byte ∈ AW := aw_of (List.mem_of_getElem? (i := 152) (by decide +kernel)) (by decide +kernel)
theorem aw_m_X1_44 : Cond.methodLink RX1 44 yX1_countPoints ∈ AW := aw_of (List.mem_of_getElem? (i := 153) (by decide +kernel)) (by decide +kernel)
theorem aw_v_X1_countPoints : Cond.instanceMethod yX1_countPoints ∈ AW := aw_of (List.mem_of_getElem? (i := 155) (by decide +kernel)) (by decide +kernel)
theorem aw_b_X1_countPoints : Cond.code yX1_countPoints cX1_countPoints 6 (some .int) ∈ AW := aw_of (List.mem_of_getElem? (i := 156) (by decide +kernel)) (by decide +kernel)
theorem aw_m_X1_150 : Cond.methodLink RX1 150 yX1_cubic ∈ AW := aw_of (List.mem_of_getElem? (i := 157) (by decide +kernel)) (by decide +kernel)
theorem aw_s_X1_cubic : Cond.static yX1_cubic ∈ AW := aw_of (List.mem_of_getElem? (i := 158) (by decide +kernel)) (by decide +kernel)
theorem aw_b_X1_cubic : Cond.code yX1_cubic cX1_cubic 4 (some .int) ∈ AW := aw_of (List.mem_of_getElem? (i := 159) (by decide +kernel)) (by decide +kernel)
theorem aw_c_X1_54 : Cond.classLink RX1 54 RX0 ∈ AW := aw_of (List.mem_of_getElem? (i := 161) (by decide +kernel)) (by decide +kernel)
theorem aw_n_X0 : Cond.instantiable RX0 5 ∈ AW := aw_of (List.mem_of_getElem? (i := 162) (by decide +kernel)) (by decide +kernel)
theorem aw_m_X1_56 : Cond.methodLink RX1 56 yX0_init ∈ AW := aw_of (List.mem_of_getElem? (i := 163) (by decide +kernel)) (by decide +kernel)
theorem aw_v_X0_init : Cond.instanceMethod yX0_init ∈ AW := aw_of (List.mem_of_getElem? (i := 164) (by decide +kernel)) (by decide +kernel)
theorem aw_b_X0_init : Cond.code yX0_init cX0_init 5 none ∈ AW := aw_of (List.mem_of_getElem? (i := 165) (by decide +kernel)) (by decide +kernel)
theorem aw_m_X0_3 : Cond.methodLink RX0 3 objectInit ∈ AW := aw_of (List.mem_of_getElem? (i := 166) (by decide +kernel)) (by decide +kernel)
theorem aw_m_X0_24 : Cond.methodLink RX0 24 yX0_leastPoint ∈ AW := aw_of (List.mem_of_getElem? (i := 167) (by decide +kernel)) (by decide +kernel)
theorem aw_s_X0_leastPoint : Cond.static yX0_leastPoint ∈ AW := aw_of (List.mem_of_getElem? (i := 168) (by decide +kernel)) (by decide +kernel)
theorem aw_b_X0_leastPoint : Cond.code yX0_leastPoint cX0_leastPoint 5 (some .int) ∈ AW := aw_of (List.mem_of_getElem? (i := 169) (by decide +kernel)) (by decide +kernel)
theorem aw_m_X0_35 : Cond.methodLink RX0 35 yX0_lesserRoot ∈ AW := aw_of (List.mem_of_getElem? (i := 171) (by decide +kernel)) (by decide +kernel)
theorem aw_s_X0_lesserRoot : Cond.static yX0_lesserRoot ∈ AW := aw_of (List.mem_of_getElem? (i := 172) (by decide +kernel)) (by decide +kernel)
theorem aw_b_X0_lesserRoot : Cond.code yX0_lesserRoot cX0_lesserRoot 3 (some .int) ∈ AW := aw_of (List.mem_of_getElem? (i := 173) (by decide +kernel)) (by decide +kernel)
theorem aw_s_X1_pointAt : Cond.static yX1_pointAt ∈ AW := aw_of (List.mem_of_getElem? (i := 175) (by decide +kernel)) (by decide +kernel)
theorem aw_b_X1_pointAt : Cond.code yX1_pointAt cX1_pointAt 2 (some .int) ∈ AW := aw_of (List.mem_of_getElem? (i := 176) (by decide +kernel)) (by decide +kernel)
theorem aw_k_X1_154 : Cond.constant RX1 154 (65536) ∈ AW := aw_of (List.mem_of_getElem? (i := 177) (by decide +kernel)) (by decide +kernel)
theorem aw_f_X0_9 : Cond.fieldLink RX0 9 "PrimeCurveSigner$Curve" "p" "I" ∈ AW := aw_of (List.mem_of_getElem? (i := 178) (by decide +kernel)) (by decide +kernel)
theorem aw_f_X0_15 : Cond.fieldLink RX0 15 "PrimeCurveSigner$Curve" "a" "I" ∈ AW := aw_of (List.mem_of_getElem? (i := 179) (by decide +kernel)) (by decide +kernel)
theorem aw_f_X0_18 : Cond.fieldLink RX0 18 "PrimeCurveSigner$Curve" "b" "I" ∈ AW := aw_of (List.mem_of_getElem? (i := 180) (by decide +kernel)) (by decide +kernel)
theorem aw_f_X0_21 : Cond.fieldLink RX0 21 "PrimeCurveSigner$Curve" "n" "I" ∈ AW := aw_of (List.mem_of_getElem? (i := 181) (by decide +kernel)) (by decide +kernel)
theorem aw_f_X1_59 : Cond.fieldLink RX1 59 "PrimeCurveSigner$Curve" "n" "I" ∈ AW := aw_of (List.mem_of_getElem? (i := 182) (by decide +kernel)) (by decide +kernel)
theorem aw_f_X0_28 : Cond.fieldLink RX0 28 "PrimeCurveSigner$Curve" "basePoint" "I" ∈ AW := aw_of (List.mem_of_getElem? (i := 183) (by decide +kernel)) (by decide +kernel)
theorem aw_f_X1_80 : Cond.fieldLink RX1 80 "PrimeCurveSigner$Curve" "basePoint" "I" ∈ AW := aw_of (List.mem_of_getElem? (i := 184) (by decide +kernel)) (by decide +kernel)
theorem aw_m_L_84 : Cond.methodLink RL 84 yL_load ∈ AW := aw_of (List.mem_of_getElem? (i := 196) (by decide +kernel)) (by decide +kernel)
theorem aw_s_L_load : Cond.static yL_load ∈ AW := aw_of (List.mem_of_getElem? (i := 197) (by decide +kernel)) (by decide +kernel)
theorem aw_c_L_19 : Cond.classLink RL 19 "java/lang/IllegalStateException" ∈ AW := aw_of (List.mem_of_getElem? (i := 199) (by decide +kernel)) (by decide +kernel)
theorem aw_c_L_21 : Cond.classLink RL 21 "java/lang/IndexOutOfBoundsException" ∈ AW := aw_of (List.mem_of_getElem? (i := 200) (by decide +kernel)) (by decide +kernel)
theorem aw_m_L_15 : Cond.methodLink RL 15 yX1_load ∈ AW := aw_of (List.mem_of_getElem? (i := 201) (by decide +kernel)) (by decide +kernel)
theorem aw_v_X1_load : Cond.instanceMethod yX1_load ∈ AW := aw_of (List.mem_of_getElem? (i := 202) (by decide +kernel)) (by decide +kernel)
theorem aw_e_X1_load : Cond.selects RX1 yX1_load yX1_load ∈ AW := aw_of (List.mem_of_getElem? (i := 203) (by decide +kernel)) (by decide +kernel)
theorem aw_b_X1_load : Cond.code yX1_load cX1_load 5 none ∈ AW := aw_of (List.mem_of_getElem? (i := 204) (by decide +kernel)) (by decide +kernel)
theorem aw_m_X1_62 : Cond.methodLink RX1 62 yX1_takenCurve ∈ AW := aw_of (List.mem_of_getElem? (i := 205) (by decide +kernel)) (by decide +kernel)
theorem aw_v_X1_takenCurve : Cond.instanceMethod yX1_takenCurve ∈ AW := aw_of (List.mem_of_getElem? (i := 207) (by decide +kernel)) (by decide +kernel)
theorem aw_b_X1_takenCurve : Cond.code yX1_takenCurve cX1_takenCurve 1 (some (.object "PrimeCurveSigner$Curve")) ∈ AW := aw_of (List.mem_of_getElem? (i := 208) (by decide +kernel)) (by decide +kernel)
theorem aw_c_X1_114 : Cond.classLink RX1 114 "java/lang/IllegalStateException" ∈ AW := aw_of (List.mem_of_getElem? (i := 209) (by decide +kernel)) (by decide +kernel)
theorem aw_m_X1_66 : Cond.methodLink RX1 66 yX1_checkRegister ∈ AW := aw_of (List.mem_of_getElem? (i := 225) (by decide +kernel)) (by decide +kernel)
theorem aw_s_X1_checkRegister : Cond.static yX1_checkRegister ∈ AW := aw_of (List.mem_of_getElem? (i := 226) (by decide +kernel)) (by decide +kernel)
theorem aw_b_X1_checkRegister : Cond.code yX1_checkRegister cX1_checkRegister 1 none ∈ AW := aw_of (List.mem_of_getElem? (i := 227) (by decide +kernel)) (by decide +kernel)
theorem aw_c_X1_145 : Cond.classLink RX1 145 "java/lang/IndexOutOfBoundsException" ∈ AW := aw_of (List.mem_of_getElem? (i := 228) (by decide +kernel)) (by decide +kernel)
theorem aw_m_X1_70 : Cond.methodLink RX1 70 yX0_holds ∈ AW := aw_of (List.mem_of_getElem? (i := 244) (by decide +kernel)) (by decide +kernel)
theorem aw_v_X0_holds : Cond.instanceMethod yX0_holds ∈ AW := aw_of (List.mem_of_getElem? (i := 245) (by decide +kernel)) (by decide +kernel)
theorem aw_e_X0_holds : Cond.selects RX0 yX0_holds yX0_holds ∈ AW := aw_of (List.mem_of_getElem? (i := 246) (by decide +kernel)) (by decide +kernel)
theorem aw_b_X0_holds : Cond.code yX0_holds cX0_holds 3 (some .boolean) ∈ AW := aw_of (List.mem_of_getElem? (i := 247) (by decide +kernel)) (by decide +kernel)
theorem aw_m_X1_76 : Cond.methodLink RX1 76 yX1_pointAt ∈ AW := aw_of (List.mem_of_getElem? (i := 249) (by decide +kernel)) (by decide +kernel)
theorem aw_m_L_88 : Cond.methodLink RL 88 yL_base ∈ AW := aw_of (List.mem_of_getElem? (i := 250) (by decide +kernel)) (by decide +kernel)
theorem aw_s_L_base : Cond.static yL_base ∈ AW := aw_of (List.mem_of_getElem? (i := 251) (by decide +kernel)) (by decide +kernel)
theorem aw_m_L_23 : Cond.methodLink RL 23 yX1_base ∈ AW := aw_of (List.mem_of_getElem? (i := 253) (by decide +kernel)) (by decide +kernel)
theorem aw_v_X1_base : Cond.instanceMethod yX1_base ∈ AW := aw_of (List.mem_of_getElem? (i := 254) (by decide +kernel)) (by decide +kernel)
theorem aw_e_X1_base : Cond.selects RX1 yX1_base yX1_base ∈ AW := aw_of (List.mem_of_getElem? (i := 255) (by decide +kernel)) (by decide +kernel)
theorem aw_b_X1_base : Cond.code yX1_base cX1_base 3 none ∈ AW := aw_of (List.mem_of_getElem? (i := 256) (by decide +kernel)) (by decide +kernel)
theorem aw_m_L_92 : Cond.methodLink RL 92 yL_sum ∈ AW := aw_of (List.mem_of_getElem? (i := 257) (by decide +kernel)) (by decide +kernel)
theorem aw_s_L_sum : Cond.static yL_sum ∈ AW := aw_of (List.mem_of_getElem? (i := 258) (by decide +kernel)) (by decide +kernel)
theorem aw_m_L_27 : Cond.methodLink RL 27 yX1_sum ∈ AW := aw_of (List.mem_of_getElem? (i := 260) (by decide +kernel)) (by decide +kernel)
theorem aw_v_X1_sum : Cond.instanceMethod yX1_sum ∈ AW := aw_of (List.mem_of_getElem? (i := 261) (by decide +kernel)) (by decide +kernel)
theorem aw_e_X1_sum : Cond.selects RX1 yX1_sum yX1_sum ∈ AW := aw_of (List.mem_of_getElem? (i := 262) (by decide +kernel)) (by decide +kernel)
theorem aw_b_X1_sum : Cond.code yX1_sum cX1_sum 5 none ∈ AW := aw_of (List.mem_of_getElem? (i := 263) (by decide +kernel)) (by decide +kernel)
theorem aw_m_X1_83 : Cond.methodLink RX1 83 yX0_plus ∈ AW := aw_of (List.mem_of_getElem? (i := 264) (by decide +kernel)) (by decide +kernel)
theorem aw_v_X0_plus : Cond.instanceMethod yX0_plus ∈ AW := aw_of (List.mem_of_getElem? (i := 265) (by decide +kernel)) (by decide +kernel)
theorem aw_e_X0_plus : Cond.selects RX0 yX0_plus yX0_plus ∈ AW := aw_of (List.mem_of_getElem? (i := 266) (by decide +kernel)) (by decide +kernel)
theorem aw_b_X0_plus : Cond.code yX0_plus cX0_plus 7 (some .int) ∈ AW := aw_of (List.mem_of_getElem? (i := 267) (by decide +kernel)) (by decide +kernel)
theorem aw_s_X1_xOf : Cond.static yX1_xOf ∈ AW := aw_of (List.mem_of_getElem? (i := 269) (by decide +kernel)) (by decide +kernel)
theorem aw_b_X1_xOf : Cond.code yX1_xOf cX1_xOf 1 (some .int) ∈ AW := aw_of (List.mem_of_getElem? (i := 270) (by decide +kernel)) (by decide +kernel)
theorem aw_s_X1_yOf : Cond.static yX1_yOf ∈ AW := aw_of (List.mem_of_getElem? (i := 272) (by decide +kernel)) (by decide +kernel)
theorem aw_b_X1_yOf : Cond.code yX1_yOf cX1_yOf 1 (some .int) ∈ AW := aw_of (List.mem_of_getElem? (i := 273) (by decide +kernel)) (by decide +kernel)
theorem aw_k_X1_155 : Cond.constant RX1 155 (65535) ∈ AW := aw_of (List.mem_of_getElem? (i := 274) (by decide +kernel)) (by decide +kernel)
theorem aw_m_X0_55 : Cond.methodLink RX0 55 yX0_slope ∈ AW := aw_of (List.mem_of_getElem? (i := 275) (by decide +kernel)) (by decide +kernel)
theorem aw_v_X0_slope : Cond.instanceMethod yX0_slope ∈ AW := aw_of (List.mem_of_getElem? (i := 277) (by decide +kernel)) (by decide +kernel)
theorem aw_b_X0_slope : Cond.code yX0_slope cX0_slope 5 (some .int) ∈ AW := aw_of (List.mem_of_getElem? (i := 278) (by decide +kernel)) (by decide +kernel)
theorem aw_s_X1_quotient : Cond.static yX1_quotient ∈ AW := aw_of (List.mem_of_getElem? (i := 280) (by decide +kernel)) (by decide +kernel)
theorem aw_b_X1_quotient : Cond.code yX1_quotient cX1_quotient 3 (some .int) ∈ AW := aw_of (List.mem_of_getElem? (i := 281) (by decide +kernel)) (by decide +kernel)
theorem aw_m_X1_161 : Cond.methodLink RX1 161 yJM_floorModI ∈ AW := aw_of (List.mem_of_getElem? (i := 282) (by decide +kernel)) (by decide +kernel)
theorem aw_s_JM_floorModI : Cond.static yJM_floorModI ∈ AW := aw_of (List.mem_of_getElem? (i := 283) (by decide +kernel)) (by decide +kernel)
theorem aw_b_JM_floorModI : Cond.code yJM_floorModI cJM_floorModI 3 (some .int) ∈ AW := aw_of (List.mem_of_getElem? (i := 284) (by decide +kernel)) (by decide +kernel)
theorem aw_m_X1_166 : Cond.methodLink RX1 166 yX1_inverse ∈ AW := aw_of (List.mem_of_getElem? (i := 285) (by decide +kernel)) (by decide +kernel)
theorem aw_s_X1_inverse : Cond.static yX1_inverse ∈ AW := aw_of (List.mem_of_getElem? (i := 286) (by decide +kernel)) (by decide +kernel)
theorem aw_b_X1_inverse : Cond.code yX1_inverse cX1_inverse 5 (some .int) ∈ AW := aw_of (List.mem_of_getElem? (i := 287) (by decide +kernel)) (by decide +kernel)
theorem aw_m_X0_58 : Cond.methodLink RX0 58 yJM_floorModI ∈ AW := aw_of (List.mem_of_getElem? (i := 288) (by decide +kernel)) (by decide +kernel)
theorem aw_m_L_95 : Cond.methodLink RL 95 yL_times ∈ AW := aw_of (List.mem_of_getElem? (i := 289) (by decide +kernel)) (by decide +kernel)
theorem aw_s_L_times : Cond.static yL_times ∈ AW := aw_of (List.mem_of_getElem? (i := 290) (by decide +kernel)) (by decide +kernel)
theorem aw_m_L_30 : Cond.methodLink RL 30 yX1_times ∈ AW := aw_of (List.mem_of_getElem? (i := 292) (by decide +kernel)) (by decide +kernel)
theorem aw_v_X1_times : Cond.instanceMethod yX1_times ∈ AW := aw_of (List.mem_of_getElem? (i := 293) (by decide +kernel)) (by decide +kernel)
theorem aw_e_X1_times : Cond.selects RX1 yX1_times yX1_times ∈ AW := aw_of (List.mem_of_getElem? (i := 294) (by decide +kernel)) (by decide +kernel)
theorem aw_b_X1_times : Cond.code yX1_times cX1_times 5 none ∈ AW := aw_of (List.mem_of_getElem? (i := 295) (by decide +kernel)) (by decide +kernel)
theorem aw_m_X1_86 : Cond.methodLink RX1 86 yX0_multiple ∈ AW := aw_of (List.mem_of_getElem? (i := 296) (by decide +kernel)) (by decide +kernel)
theorem aw_v_X0_multiple : Cond.instanceMethod yX0_multiple ∈ AW := aw_of (List.mem_of_getElem? (i := 297) (by decide +kernel)) (by decide +kernel)
theorem aw_e_X0_multiple : Cond.selects RX0 yX0_multiple yX0_multiple ∈ AW := aw_of (List.mem_of_getElem? (i := 298) (by decide +kernel)) (by decide +kernel)
theorem aw_b_X0_multiple : Cond.code yX0_multiple cX0_multiple 6 (some .int) ∈ AW := aw_of (List.mem_of_getElem? (i := 299) (by decide +kernel)) (by decide +kernel)
theorem aw_m_X0_63 : Cond.methodLink RX0 63 yX0_plus ∈ AW := aw_of (List.mem_of_getElem? (i := 300) (by decide +kernel)) (by decide +kernel)
theorem aw_m_L_98 : Cond.methodLink RL 98 yL_x ∈ AW := aw_of (List.mem_of_getElem? (i := 301) (by decide +kernel)) (by decide +kernel)
theorem aw_s_L_x : Cond.static yL_x ∈ AW := aw_of (List.mem_of_getElem? (i := 302) (by decide +kernel)) (by decide +kernel)
theorem aw_m_L_33 : Cond.methodLink RL 33 yX1_x ∈ AW := aw_of (List.mem_of_getElem? (i := 304) (by decide +kernel)) (by decide +kernel)
theorem aw_v_X1_x : Cond.instanceMethod yX1_x ∈ AW := aw_of (List.mem_of_getElem? (i := 305) (by decide +kernel)) (by decide +kernel)
theorem aw_e_X1_x : Cond.selects RX1 yX1_x yX1_x ∈ AW := aw_of (List.mem_of_getElem? (i := 306) (by decide +kernel)) (by decide +kernel)
theorem aw_b_X1_x : Cond.code yX1_x cX1_x 2 (some .int) ∈ AW := aw_of (List.mem_of_getElem? (i := 307) (by decide +kernel)) (by decide +kernel)
theorem aw_m_X1_89 : Cond.methodLink RX1 89 yX1_xOf ∈ AW := aw_of (List.mem_of_getElem? (i := 308) (by decide +kernel)) (by decide +kernel)
theorem aw_m_L_102 : Cond.methodLink RL 102 yL_y ∈ AW := aw_of (List.mem_of_getElem? (i := 309) (by decide +kernel)) (by decide +kernel)
theorem aw_s_L_y : Cond.static yL_y ∈ AW := aw_of (List.mem_of_getElem? (i := 310) (by decide +kernel)) (by decide +kernel)
theorem aw_m_L_37 : Cond.methodLink RL 37 yX1_y ∈ AW := aw_of (List.mem_of_getElem? (i := 312) (by decide +kernel)) (by decide +kernel)
theorem aw_v_X1_y : Cond.instanceMethod yX1_y ∈ AW := aw_of (List.mem_of_getElem? (i := 313) (by decide +kernel)) (by decide +kernel)
theorem aw_e_X1_y : Cond.selects RX1 yX1_y yX1_y ∈ AW := aw_of (List.mem_of_getElem? (i := 314) (by decide +kernel)) (by decide +kernel)
theorem aw_b_X1_y : Cond.code yX1_y cX1_y 2 (some .int) ∈ AW := aw_of (List.mem_of_getElem? (i := 315) (by decide +kernel)) (by decide +kernel)
theorem aw_m_X1_93 : Cond.methodLink RX1 93 yX1_yOf ∈ AW := aw_of (List.mem_of_getElem? (i := 316) (by decide +kernel)) (by decide +kernel)
theorem aw_m_L_105 : Cond.methodLink RL 105 yL_code ∈ AW := aw_of (List.mem_of_getElem? (i := 317) (by decide +kernel)) (by decide +kernel)
theorem aw_s_L_code : Cond.static yL_code ∈ AW := aw_of (List.mem_of_getElem? (i := 318) (by decide +kernel)) (by decide +kernel)
theorem aw_m_L_40 : Cond.methodLink RL 40 yX1_code ∈ AW := aw_of (List.mem_of_getElem? (i := 320) (by decide +kernel)) (by decide +kernel)
theorem aw_v_X1_code : Cond.instanceMethod yX1_code ∈ AW := aw_of (List.mem_of_getElem? (i := 321) (by decide +kernel)) (by decide +kernel)
theorem aw_e_X1_code : Cond.selects RX1 yX1_code yX1_code ∈ AW := aw_of (List.mem_of_getElem? (i := 322) (by decide +kernel)) (by decide +kernel)
theorem aw_b_X1_code : Cond.code yX1_code cX1_code 4 (some .long) ∈ AW := aw_of (List.mem_of_getElem? (i := 323) (by decide +kernel)) (by decide +kernel)
theorem aw_m_X1_96 : Cond.methodLink RX1 96 yX1_shortNumber ∈ AW := aw_of (List.mem_of_getElem? (i := 324) (by decide +kernel)) (by decide +kernel)
theorem aw_s_X1_shortNumber : Cond.static yX1_shortNumber ∈ AW := aw_of (List.mem_of_getElem? (i := 325) (by decide +kernel)) (by decide +kernel)
theorem aw_b_X1_shortNumber : Cond.code yX1_shortNumber cX1_shortNumber 1 (some .long) ∈ AW := aw_of (List.mem_of_getElem? (i := 326) (by decide +kernel)) (by decide +kernel)
theorem aw_k_X1_156 : Cond.constantLong RX1 156 (65536) ∈ AW := aw_of (List.mem_of_getElem? (i := 327) (by decide +kernel)) (by decide +kernel)
theorem aw_m_X1_100 : Cond.methodLink RX1 100 yX1_plainNumber ∈ AW := aw_of (List.mem_of_getElem? (i := 328) (by decide +kernel)) (by decide +kernel)
theorem aw_s_X1_plainNumber : Cond.static yX1_plainNumber ∈ AW := aw_of (List.mem_of_getElem? (i := 329) (by decide +kernel)) (by decide +kernel)
theorem aw_b_X1_plainNumber : Cond.code yX1_plainNumber cX1_plainNumber 1 (some .long) ∈ AW := aw_of (List.mem_of_getElem? (i := 330) (by decide +kernel)) (by decide +kernel)
theorem aw_k_X1_158 : Cond.constantLong RX1 158 (17179869184) ∈ AW := aw_of (List.mem_of_getElem? (i := 331) (by decide +kernel)) (by decide +kernel)
theorem aw_m_L_111 : Cond.methodLink RL 111 yL_decode ∈ AW := aw_of (List.mem_of_getElem? (i := 332) (by decide +kernel)) (by decide +kernel)
theorem aw_s_L_decode : Cond.static yL_decode ∈ AW := aw_of (List.mem_of_getElem? (i := 333) (by decide +kernel)) (by decide +kernel)
theorem aw_m_L_44 : Cond.methodLink RL 44 yX1_decode ∈ AW := aw_of (List.mem_of_getElem? (i := 335) (by decide +kernel)) (by decide +kernel)
theorem aw_v_X1_decode : Cond.instanceMethod yX1_decode ∈ AW := aw_of (List.mem_of_getElem? (i := 336) (by decide +kernel)) (by decide +kernel)
theorem aw_e_X1_decode : Cond.selects RX1 yX1_decode yX1_decode ∈ AW := aw_of (List.mem_of_getElem? (i := 337) (by decide +kernel)) (by decide +kernel)
theorem aw_b_X1_decode : Cond.code yX1_decode cX1_decode 7 none ∈ AW := aw_of (List.mem_of_getElem? (i := 338) (by decide +kernel)) (by decide +kernel)
theorem aw_m_X1_103 : Cond.methodLink RX1 103 yX0_pointOfBytes ∈ AW := aw_of (List.mem_of_getElem? (i := 339) (by decide +kernel)) (by decide +kernel)
theorem aw_v_X0_pointOfBytes : Cond.instanceMethod yX0_pointOfBytes ∈ AW := aw_of (List.mem_of_getElem? (i := 340) (by decide +kernel)) (by decide +kernel)
theorem aw_e_X0_pointOfBytes : Cond.selects RX0 yX0_pointOfBytes yX0_pointOfBytes ∈ AW := aw_of (List.mem_of_getElem? (i := 341) (by decide +kernel)) (by decide +kernel)
theorem aw_b_X0_pointOfBytes : Cond.code yX0_pointOfBytes cX0_pointOfBytes 4 (some .int) ∈ AW := aw_of (List.mem_of_getElem? (i := 342) (by decide +kernel)) (by decide +kernel)
theorem aw_m_X0_66 : Cond.methodLink RX0 66 yX0_pointOfShort ∈ AW := aw_of (List.mem_of_getElem? (i := 343) (by decide +kernel)) (by decide +kernel)
theorem aw_v_X0_pointOfShort : Cond.instanceMethod yX0_pointOfShort ∈ AW := aw_of (List.mem_of_getElem? (i := 345) (by decide +kernel)) (by decide +kernel)
theorem aw_b_X0_pointOfShort : Cond.code yX0_pointOfShort cX0_pointOfShort 7 (some .int) ∈ AW := aw_of (List.mem_of_getElem? (i := 346) (by decide +kernel)) (by decide +kernel)
theorem aw_k_X0_73 : Cond.constantLong RX0 73 (65535) ∈ AW := aw_of (List.mem_of_getElem? (i := 347) (by decide +kernel)) (by decide +kernel)
theorem aw_k_X0_75 : Cond.constantLong RX0 75 (2) ∈ AW := aw_of (List.mem_of_getElem? (i := 348) (by decide +kernel)) (by decide +kernel)
theorem aw_k_X0_77 : Cond.constantLong RX0 77 (3) ∈ AW := aw_of (List.mem_of_getElem? (i := 349) (by decide +kernel)) (by decide +kernel)
theorem aw_m_X0_70 : Cond.methodLink RX0 70 yX0_pointOfPlain ∈ AW := aw_of (List.mem_of_getElem? (i := 350) (by decide +kernel)) (by decide +kernel)
theorem aw_v_X0_pointOfPlain : Cond.instanceMethod yX0_pointOfPlain ∈ AW := aw_of (List.mem_of_getElem? (i := 352) (by decide +kernel)) (by decide +kernel)
theorem aw_b_X0_pointOfPlain : Cond.code yX0_pointOfPlain cX0_pointOfPlain 5 (some .int) ∈ AW := aw_of (List.mem_of_getElem? (i := 353) (by decide +kernel)) (by decide +kernel)
theorem aw_k_X0_79 : Cond.constantLong RX0 79 (4) ∈ AW := aw_of (List.mem_of_getElem? (i := 354) (by decide +kernel)) (by decide +kernel)
theorem aw_m_X0_81 : Cond.methodLink RX0 81 yX0_holds ∈ AW := aw_of (List.mem_of_getElem? (i := 355) (by decide +kernel)) (by decide +kernel)
theorem aw_m_L_115 : Cond.methodLink RL 115 yL_key ∈ AW := aw_of (List.mem_of_getElem? (i := 357) (by decide +kernel)) (by decide +kernel)
theorem aw_s_L_key : Cond.static yL_key ∈ AW := aw_of (List.mem_of_getElem? (i := 358) (by decide +kernel)) (by decide +kernel)
theorem aw_m_L_48 : Cond.methodLink RL 48 yX1_key ∈ AW := aw_of (List.mem_of_getElem? (i := 360) (by decide +kernel)) (by decide +kernel)
theorem aw_v_X1_key : Cond.instanceMethod yX1_key ∈ AW := aw_of (List.mem_of_getElem? (i := 361) (by decide +kernel)) (by decide +kernel)
theorem aw_e_X1_key : Cond.selects RX1 yX1_key yX1_key ∈ AW := aw_of (List.mem_of_getElem? (i := 362) (by decide +kernel)) (by decide +kernel)
theorem aw_b_X1_key : Cond.code yX1_key cX1_key 4 none ∈ AW := aw_of (List.mem_of_getElem? (i := 363) (by decide +kernel)) (by decide +kernel)
theorem aw_m_X1_109 : Cond.methodLink RX1 109 yX0_isUnit ∈ AW := aw_of (List.mem_of_getElem? (i := 364) (by decide +kernel)) (by decide +kernel)
theorem aw_v_X0_isUnit : Cond.instanceMethod yX0_isUnit ∈ AW := aw_of (List.mem_of_getElem? (i := 365) (by decide +kernel)) (by decide +kernel)
theorem aw_e_X0_isUnit : Cond.selects RX0 yX0_isUnit yX0_isUnit ∈ AW := aw_of (List.mem_of_getElem? (i := 366) (by decide +kernel)) (by decide +kernel)
theorem aw_b_X0_isUnit : Cond.code yX0_isUnit cX0_isUnit 2 (some .boolean) ∈ AW := aw_of (List.mem_of_getElem? (i := 367) (by decide +kernel)) (by decide +kernel)
theorem aw_m_L_119 : Cond.methodLink RL 119 yL_sign ∈ AW := aw_of (List.mem_of_getElem? (i := 369) (by decide +kernel)) (by decide +kernel)
theorem aw_s_L_sign : Cond.static yL_sign ∈ AW := aw_of (List.mem_of_getElem? (i := 370) (by decide +kernel)) (by decide +kernel)
theorem aw_c_L_56 : Cond.classLink RL 56 "java/lang/ArithmeticException" ∈ AW := aw_of (List.mem_of_getElem? (i := 372) (by decide +kernel)) (by decide +kernel)
theorem aw_m_L_52 : Cond.methodLink RL 52 yX1_sign ∈ AW := aw_of (List.mem_of_getElem? (i := 373) (by decide +kernel)) (by decide +kernel)
theorem aw_v_X1_sign : Cond.instanceMethod yX1_sign ∈ AW := aw_of (List.mem_of_getElem? (i := 374) (by decide +kernel)) (by decide +kernel)
theorem aw_e_X1_sign : Cond.selects RX1 yX1_sign yX1_sign ∈ AW := aw_of (List.mem_of_getElem? (i := 375) (by decide +kernel)) (by decide +kernel)
theorem aw_b_X1_sign : Cond.code yX1_sign cX1_sign 11 (some .long) ∈ AW := aw_of (List.mem_of_getElem? (i := 376) (by decide +kernel)) (by decide +kernel)
theorem aw_m_X1_119 : Cond.methodLink RX1 119 yX0_messageResidue ∈ AW := aw_of (List.mem_of_getElem? (i := 378) (by decide +kernel)) (by decide +kernel)
theorem aw_v_X0_messageResidue : Cond.instanceMethod yX0_messageResidue ∈ AW := aw_of (List.mem_of_getElem? (i := 379) (by decide +kernel)) (by decide +kernel)
theorem aw_e_X0_messageResidue : Cond.selects RX0 yX0_messageResidue yX0_messageResidue ∈ AW := aw_of (List.mem_of_getElem? (i := 380) (by decide +kernel)) (by decide +kernel)
theorem aw_b_X0_messageResidue : Cond.code yX0_messageResidue cX0_messageResidue 3 (some .int) ∈ AW := aw_of (List.mem_of_getElem? (i := 381) (by decide +kernel)) (by decide +kernel)
theorem aw_m_X0_42 : Cond.methodLink RX0 42 yJM_floorModJ ∈ AW := aw_of (List.mem_of_getElem? (i := 382) (by decide +kernel)) (by decide +kernel)
theorem aw_s_JM_floorModJ : Cond.static yJM_floorModJ ∈ AW := aw_of (List.mem_of_getElem? (i := 383) (by decide +kernel)) (by decide +kernel)
theorem aw_b_JM_floorModJ : Cond.code yJM_floorModJ cJM_floorModJ 6 (some .long) ∈ AW := aw_of (List.mem_of_getElem? (i := 384) (by decide +kernel)) (by decide +kernel)
theorem aw_m_X1_123 : Cond.methodLink RX1 123 yX0_drawMask ∈ AW := aw_of (List.mem_of_getElem? (i := 385) (by decide +kernel)) (by decide +kernel)
theorem aw_v_X0_drawMask : Cond.instanceMethod yX0_drawMask ∈ AW := aw_of (List.mem_of_getElem? (i := 386) (by decide +kernel)) (by decide +kernel)
theorem aw_e_X0_drawMask : Cond.selects RX0 yX0_drawMask yX0_drawMask ∈ AW := aw_of (List.mem_of_getElem? (i := 387) (by decide +kernel)) (by decide +kernel)
theorem aw_b_X0_drawMask : Cond.code yX0_drawMask cX0_drawMask 3 (some .int) ∈ AW := aw_of (List.mem_of_getElem? (i := 388) (by decide +kernel)) (by decide +kernel)
theorem aw_m_X1_127 : Cond.methodLink RX1 127 yX1_mix ∈ AW := aw_of (List.mem_of_getElem? (i := 389) (by decide +kernel)) (by decide +kernel)
theorem aw_s_X1_mix : Cond.static yX1_mix ∈ AW := aw_of (List.mem_of_getElem? (i := 390) (by decide +kernel)) (by decide +kernel)
theorem aw_b_X1_mix : Cond.code yX1_mix cX1_mix 3 (some .int) ∈ AW := aw_of (List.mem_of_getElem? (i := 391) (by decide +kernel)) (by decide +kernel)
theorem aw_k_X1_160 : Cond.constant RX1 160 (668265261) ∈ AW := aw_of (List.mem_of_getElem? (i := 392) (by decide +kernel)) (by decide +kernel)
theorem aw_m_X1_130 : Cond.methodLink RX1 130 yX0_signatureFrom ∈ AW := aw_of (List.mem_of_getElem? (i := 393) (by decide +kernel)) (by decide +kernel)
theorem aw_v_X0_signatureFrom : Cond.instanceMethod yX0_signatureFrom ∈ AW := aw_of (List.mem_of_getElem? (i := 394) (by decide +kernel)) (by decide +kernel)
theorem aw_e_X0_signatureFrom : Cond.selects RX0 yX0_signatureFrom yX0_signatureFrom ∈ AW := aw_of (List.mem_of_getElem? (i := 395) (by decide +kernel)) (by decide +kernel)
theorem aw_b_X0_signatureFrom : Cond.code yX0_signatureFrom cX0_signatureFrom 6 (some .long) ∈ AW := aw_of (List.mem_of_getElem? (i := 396) (by decide +kernel)) (by decide +kernel)
theorem aw_m_X0_85 : Cond.methodLink RX0 85 yX0_isUnit ∈ AW := aw_of (List.mem_of_getElem? (i := 397) (by decide +kernel)) (by decide +kernel)
theorem aw_m_X0_89 : Cond.methodLink RX0 89 yX0_multiple ∈ AW := aw_of (List.mem_of_getElem? (i := 398) (by decide +kernel)) (by decide +kernel)
theorem aw_k_X0_92 : Cond.constantLong RX0 92 (65536) ∈ AW := aw_of (List.mem_of_getElem? (i := 399) (by decide +kernel)) (by decide +kernel)
theorem aw_c_X1_134 : Cond.classLink RX1 134 "java/lang/ArithmeticException" ∈ AW := aw_of (List.mem_of_getElem? (i := 400) (by decide +kernel)) (by decide +kernel)
theorem aw_m_L_127 : Cond.methodLink RL 127 yL_verify ∈ AW := aw_of (List.mem_of_getElem? (i := 416) (by decide +kernel)) (by decide +kernel)
theorem aw_s_L_verify : Cond.static yL_verify ∈ AW := aw_of (List.mem_of_getElem? (i := 417) (by decide +kernel)) (by decide +kernel)
theorem aw_m_L_58 : Cond.methodLink RL 58 yX1_verify ∈ AW := aw_of (List.mem_of_getElem? (i := 419) (by decide +kernel)) (by decide +kernel)
theorem aw_v_X1_verify : Cond.instanceMethod yX1_verify ∈ AW := aw_of (List.mem_of_getElem? (i := 420) (by decide +kernel)) (by decide +kernel)
theorem aw_e_X1_verify : Cond.selects RX1 yX1_verify yX1_verify ∈ AW := aw_of (List.mem_of_getElem? (i := 421) (by decide +kernel)) (by decide +kernel)
theorem aw_b_X1_verify : Cond.code yX1_verify cX1_verify 7 (some .boolean) ∈ AW := aw_of (List.mem_of_getElem? (i := 422) (by decide +kernel)) (by decide +kernel)
theorem aw_m_X1_139 : Cond.methodLink RX1 139 yX0_fits ∈ AW := aw_of (List.mem_of_getElem? (i := 423) (by decide +kernel)) (by decide +kernel)
theorem aw_v_X0_fits : Cond.instanceMethod yX0_fits ∈ AW := aw_of (List.mem_of_getElem? (i := 424) (by decide +kernel)) (by decide +kernel)
theorem aw_e_X0_fits : Cond.selects RX0 yX0_fits yX0_fits ∈ AW := aw_of (List.mem_of_getElem? (i := 425) (by decide +kernel)) (by decide +kernel)
theorem aw_b_X0_fits : Cond.code yX0_fits cX0_fits 9 (some .boolean) ∈ AW := aw_of (List.mem_of_getElem? (i := 426) (by decide +kernel)) (by decide +kernel)
theorem aw_m_X0_97 : Cond.methodLink RX0 97 yX0_messageResidue ∈ AW := aw_of (List.mem_of_getElem? (i := 428) (by decide +kernel)) (by decide +kernel)
theorem aw_m_L_131 : Cond.methodLink RL 131 yL_accepts ∈ AW := aw_of (List.mem_of_getElem? (i := 429) (by decide +kernel)) (by decide +kernel)
theorem aw_s_L_accepts : Cond.static yL_accepts ∈ AW := aw_of (List.mem_of_getElem? (i := 430) (by decide +kernel)) (by decide +kernel)
theorem aw_m_L_62 : Cond.methodLink RL 62 yX1_accepts ∈ AW := aw_of (List.mem_of_getElem? (i := 432) (by decide +kernel)) (by decide +kernel)
theorem aw_v_X1_accepts : Cond.instanceMethod yX1_accepts ∈ AW := aw_of (List.mem_of_getElem? (i := 433) (by decide +kernel)) (by decide +kernel)
theorem aw_e_X1_accepts : Cond.selects RX1 yX1_accepts yX1_accepts ∈ AW := aw_of (List.mem_of_getElem? (i := 434) (by decide +kernel)) (by decide +kernel)
theorem aw_b_X1_accepts : Cond.code yX1_accepts cX1_accepts 10 (some .boolean) ∈ AW := aw_of (List.mem_of_getElem? (i := 435) (by decide +kernel)) (by decide +kernel)
theorem aw_c_L_67 : Cond.classLink RL 67 RX2 ∈ AW := aw_of (List.mem_of_getElem? (i := 436) (by decide +kernel)) (by decide +kernel)
theorem aw_n_X2 : Cond.instantiable RX2 15 ∈ AW := aw_of (List.mem_of_getElem? (i := 437) (by decide +kernel)) (by decide +kernel)
theorem aw_m_L_69 : Cond.methodLink RL 69 yX2_init ∈ AW := aw_of (List.mem_of_getElem? (i := 438) (by decide +kernel)) (by decide +kernel)
theorem aw_v_X2_init : Cond.instanceMethod yX2_init ∈ AW := aw_of (List.mem_of_getElem? (i := 439) (by decide +kernel)) (by decide +kernel)
theorem aw_b_X2_init : Cond.code yX2_init cX2_init 1 none ∈ AW := aw_of (List.mem_of_getElem? (i := 440) (by decide +kernel)) (by decide +kernel)
theorem aw_m_X2_1 : Cond.methodLink RX2 1 objectInit ∈ AW := aw_of (List.mem_of_getElem? (i := 441) (by decide +kernel)) (by decide +kernel)
theorem aw_f_X2_41 : Cond.fieldLink RX2 41 "PrimeCurveSignerModel" "p" "I" ∈ AW := aw_of (List.mem_of_getElem? (i := 442) (by decide +kernel)) (by decide +kernel)
theorem aw_f_X2_38 : Cond.fieldLink RX2 38 "PrimeCurveSignerModel" "a" "I" ∈ AW := aw_of (List.mem_of_getElem? (i := 443) (by decide +kernel)) (by decide +kernel)
theorem aw_f_X2_62 : Cond.fieldLink RX2 62 "PrimeCurveSignerModel" "b" "I" ∈ AW := aw_of (List.mem_of_getElem? (i := 444) (by decide +kernel)) (by decide +kernel)
theorem aw_f_X2_65 : Cond.fieldLink RX2 65 "PrimeCurveSignerModel" "n" "I" ∈ AW := aw_of (List.mem_of_getElem? (i := 445) (by decide +kernel)) (by decide +kernel)
theorem aw_f_X2_68 : Cond.fieldLink RX2 68 "PrimeCurveSignerModel" "key" "I" ∈ AW := aw_of (List.mem_of_getElem? (i := 446) (by decide +kernel)) (by decide +kernel)
theorem aw_f_X2_116 : Cond.fieldLink RX2 116 "PrimeCurveSignerModel" "draws" "I" ∈ AW := aw_of (List.mem_of_getElem? (i := 447) (by decide +kernel)) (by decide +kernel)
theorem aw_f_X2_22 : Cond.fieldLink RX2 22 "PrimeCurveSignerModel" "thrown" "I" ∈ AW := aw_of (List.mem_of_getElem? (i := 448) (by decide +kernel)) (by decide +kernel)
theorem aw_f_X2_7 : Cond.fieldLink RX2 7 "PrimeCurveSignerModel" "tableX" "[I" ∈ AW := aw_of (List.mem_of_getElem? (i := 449) (by decide +kernel)) (by decide +kernel)
theorem aw_f_X2_13 : Cond.fieldLink RX2 13 "PrimeCurveSignerModel" "tableY" "[I" ∈ AW := aw_of (List.mem_of_getElem? (i := 450) (by decide +kernel)) (by decide +kernel)
theorem aw_f_X2_16 : Cond.fieldLink RX2 16 "PrimeCurveSignerModel" "register" "[I" ∈ AW := aw_of (List.mem_of_getElem? (i := 451) (by decide +kernel)) (by decide +kernel)
theorem aw_f_X2_19 : Cond.fieldLink RX2 19 "PrimeCurveSignerModel" "roots" "[I" ∈ AW := aw_of (List.mem_of_getElem? (i := 452) (by decide +kernel)) (by decide +kernel)
theorem aw_f_X2_48 : Cond.fieldLink RX2 48 "PrimeCurveSignerModel" "sumX" "I" ∈ AW := aw_of (List.mem_of_getElem? (i := 453) (by decide +kernel)) (by decide +kernel)
theorem aw_f_X2_51 : Cond.fieldLink RX2 51 "PrimeCurveSignerModel" "sumY" "I" ∈ AW := aw_of (List.mem_of_getElem? (i := 454) (by decide +kernel)) (by decide +kernel)
theorem aw_f_X2_103 : Cond.fieldLink RX2 103 "PrimeCurveSignerModel" "drawK" "I" ∈ AW := aw_of (List.mem_of_getElem? (i := 455) (by decide +kernel)) (by decide +kernel)
theorem aw_f_X2_109 : Cond.fieldLink RX2 109 "PrimeCurveSignerModel" "drawV" "I" ∈ AW := aw_of (List.mem_of_getElem? (i := 456) (by decide +kernel)) (by decide +kernel)
theorem aw_m_L_76 : Cond.methodLink RL 76 yX2_thrown ∈ AW := aw_of (List.mem_of_getElem? (i := 488) (by decide +kernel)) (by decide +kernel)
theorem aw_v_X2_thrown : Cond.instanceMethod yX2_thrown ∈ AW := aw_of (List.mem_of_getElem? (i := 489) (by decide +kernel)) (by decide +kernel)
theorem aw_e_X2_thrown : Cond.selects RX2 yX2_thrown yX2_thrown ∈ AW := aw_of (List.mem_of_getElem? (i := 490) (by decide +kernel)) (by decide +kernel)
theorem aw_b_X2_thrown : Cond.code yX2_thrown cX2_thrown 1 (some .int) ∈ AW := aw_of (List.mem_of_getElem? (i := 491) (by decide +kernel)) (by decide +kernel)
theorem aw_m_L_75 : Cond.methodLink RL 75 yX2_curve ∈ AW := aw_of (List.mem_of_getElem? (i := 492) (by decide +kernel)) (by decide +kernel)
theorem aw_v_X2_curve : Cond.instanceMethod yX2_curve ∈ AW := aw_of (List.mem_of_getElem? (i := 493) (by decide +kernel)) (by decide +kernel)
theorem aw_e_X2_curve : Cond.selects RX2 yX2_curve yX2_curve ∈ AW := aw_of (List.mem_of_getElem? (i := 494) (by decide +kernel)) (by decide +kernel)
theorem aw_b_X2_curve : Cond.code yX2_curve cX2_curve 6 (some .int) ∈ AW := aw_of (List.mem_of_getElem? (i := 495) (by decide +kernel)) (by decide +kernel)
theorem aw_m_X2_54 : Cond.methodLink RX2 54 yX2_count ∈ AW := aw_of (List.mem_of_getElem? (i := 496) (by decide +kernel)) (by decide +kernel)
theorem aw_v_X2_count : Cond.instanceMethod yX2_count ∈ AW := aw_of (List.mem_of_getElem? (i := 498) (by decide +kernel)) (by decide +kernel)
theorem aw_b_X2_count : Cond.code yX2_count cX2_count 8 (some .int) ∈ AW := aw_of (List.mem_of_getElem? (i := 499) (by decide +kernel)) (by decide +kernel)
theorem aw_m_X2_26 : Cond.methodLink RX2 26 yX2_prime ∈ AW := aw_of (List.mem_of_getElem? (i := 500) (by decide +kernel)) (by decide +kernel)
theorem aw_v_X2_prime : Cond.instanceMethod yX2_prime ∈ AW := aw_of (List.mem_of_getElem? (i := 502) (by decide +kernel)) (by decide +kernel)
theorem aw_b_X2_prime : Cond.code yX2_prime cX2_prime 4 (some .boolean) ∈ AW := aw_of (List.mem_of_getElem? (i := 503) (by decide +kernel)) (by decide +kernel)
theorem aw_k_X2_30 : Cond.constantLong RX2 30 (4) ∈ AW := aw_of (List.mem_of_getElem? (i := 504) (by decide +kernel)) (by decide +kernel)
theorem aw_k_X2_32 : Cond.constantLong RX2 32 (27) ∈ AW := aw_of (List.mem_of_getElem? (i := 505) (by decide +kernel)) (by decide +kernel)
theorem aw_m_X2_34 : Cond.methodLink RX2 34 yX2_cube ∈ AW := aw_of (List.mem_of_getElem? (i := 506) (by decide +kernel)) (by decide +kernel)
theorem aw_v_X2_cube : Cond.instanceMethod yX2_cube ∈ AW := aw_of (List.mem_of_getElem? (i := 508) (by decide +kernel)) (by decide +kernel)
theorem aw_b_X2_cube : Cond.code yX2_cube cX2_cube 7 (some .int) ∈ AW := aw_of (List.mem_of_getElem? (i := 509) (by decide +kernel)) (by decide +kernel)
theorem aw_m_X2_58 : Cond.methodLink RX2 58 yX2_good ∈ AW := aw_of (List.mem_of_getElem? (i := 510) (by decide +kernel)) (by decide +kernel)
theorem aw_v_X2_good : Cond.instanceMethod yX2_good ∈ AW := aw_of (List.mem_of_getElem? (i := 512) (by decide +kernel)) (by decide +kernel)
theorem aw_b_X2_good : Cond.code yX2_good cX2_good 4 (some .boolean) ∈ AW := aw_of (List.mem_of_getElem? (i := 513) (by decide +kernel)) (by decide +kernel)
theorem aw_m_X2_71 : Cond.methodLink RX2 71 yX2_findBase ∈ AW := aw_of (List.mem_of_getElem? (i := 514) (by decide +kernel)) (by decide +kernel)
theorem aw_v_X2_findBase : Cond.instanceMethod yX2_findBase ∈ AW := aw_of (List.mem_of_getElem? (i := 516) (by decide +kernel)) (by decide +kernel)
theorem aw_b_X2_findBase : Cond.code yX2_findBase cX2_findBase 3 none ∈ AW := aw_of (List.mem_of_getElem? (i := 517) (by decide +kernel)) (by decide +kernel)
theorem aw_m_X2_74 : Cond.methodLink RX2 74 yX2_add ∈ AW := aw_of (List.mem_of_getElem? (i := 518) (by decide +kernel)) (by decide +kernel)
theorem aw_v_X2_add : Cond.instanceMethod yX2_add ∈ AW := aw_of (List.mem_of_getElem? (i := 520) (by decide +kernel)) (by decide +kernel)
theorem aw_b_X2_add : Cond.code yX2_add cX2_add 8 none ∈ AW := aw_of (List.mem_of_getElem? (i := 521) (by decide +kernel)) (by decide +kernel)
theorem aw_m_X2_44 : Cond.methodLink RX2 44 yX2_inverse ∈ AW := aw_of (List.mem_of_getElem? (i := 522) (by decide +kernel)) (by decide +kernel)
theorem aw_v_X2_inverse : Cond.instanceMethod yX2_inverse ∈ AW := aw_of (List.mem_of_getElem? (i := 524) (by decide +kernel)) (by decide +kernel)
theorem aw_b_X2_inverse : Cond.code yX2_inverse cX2_inverse 4 (some .int) ∈ AW := aw_of (List.mem_of_getElem? (i := 525) (by decide +kernel)) (by decide +kernel)
theorem aw_m_L_83 : Cond.methodLink RL 83 yX2_order ∈ AW := aw_of (List.mem_of_getElem? (i := 526) (by decide +kernel)) (by decide +kernel)
theorem aw_v_X2_order : Cond.instanceMethod yX2_order ∈ AW := aw_of (List.mem_of_getElem? (i := 527) (by decide +kernel)) (by decide +kernel)
theorem aw_e_X2_order : Cond.selects RX2 yX2_order yX2_order ∈ AW := aw_of (List.mem_of_getElem? (i := 528) (by decide +kernel)) (by decide +kernel)
theorem aw_b_X2_order : Cond.code yX2_order cX2_order 1 (some .int) ∈ AW := aw_of (List.mem_of_getElem? (i := 529) (by decide +kernel)) (by decide +kernel)
theorem aw_m_L_87 : Cond.methodLink RL 87 yX2_load ∈ AW := aw_of (List.mem_of_getElem? (i := 530) (by decide +kernel)) (by decide +kernel)
theorem aw_v_X2_load : Cond.instanceMethod yX2_load ∈ AW := aw_of (List.mem_of_getElem? (i := 531) (by decide +kernel)) (by decide +kernel)
theorem aw_e_X2_load : Cond.selects RX2 yX2_load yX2_load ∈ AW := aw_of (List.mem_of_getElem? (i := 532) (by decide +kernel)) (by decide +kernel)
theorem aw_b_X2_load : Cond.code yX2_load cX2_load 5 none ∈ AW := aw_of (List.mem_of_getElem? (i := 533) (by decide +kernel)) (by decide +kernel)
theorem aw_m_X2_78 : Cond.methodLink RX2 78 yX2_find ∈ AW := aw_of (List.mem_of_getElem? (i := 534) (by decide +kernel)) (by decide +kernel)
theorem aw_v_X2_find : Cond.instanceMethod yX2_find ∈ AW := aw_of (List.mem_of_getElem? (i := 536) (by decide +kernel)) (by decide +kernel)
theorem aw_b_X2_find : Cond.code yX2_find cX2_find 5 (some .int) ∈ AW := aw_of (List.mem_of_getElem? (i := 537) (by decide +kernel)) (by decide +kernel)
theorem aw_m_X2_81 : Cond.methodLink RX2 81 yX2_noRegister ∈ AW := aw_of (List.mem_of_getElem? (i := 538) (by decide +kernel)) (by decide +kernel)
theorem aw_v_X2_noRegister : Cond.instanceMethod yX2_noRegister ∈ AW := aw_of (List.mem_of_getElem? (i := 540) (by decide +kernel)) (by decide +kernel)
theorem aw_b_X2_noRegister : Cond.code yX2_noRegister cX2_noRegister 2 (some .boolean) ∈ AW := aw_of (List.mem_of_getElem? (i := 541) (by decide +kernel)) (by decide +kernel)
theorem aw_m_L_91 : Cond.methodLink RL 91 yX2_base ∈ AW := aw_of (List.mem_of_getElem? (i := 542) (by decide +kernel)) (by decide +kernel)
theorem aw_v_X2_base : Cond.instanceMethod yX2_base ∈ AW := aw_of (List.mem_of_getElem? (i := 543) (by decide +kernel)) (by decide +kernel)
theorem aw_e_X2_base : Cond.selects RX2 yX2_base yX2_base ∈ AW := aw_of (List.mem_of_getElem? (i := 544) (by decide +kernel)) (by decide +kernel)
theorem aw_b_X2_base : Cond.code yX2_base cX2_base 2 none ∈ AW := aw_of (List.mem_of_getElem? (i := 545) (by decide +kernel)) (by decide +kernel)
theorem aw_m_L_94 : Cond.methodLink RL 94 yX2_sum ∈ AW := aw_of (List.mem_of_getElem? (i := 546) (by decide +kernel)) (by decide +kernel)
theorem aw_v_X2_sum : Cond.instanceMethod yX2_sum ∈ AW := aw_of (List.mem_of_getElem? (i := 547) (by decide +kernel)) (by decide +kernel)
theorem aw_e_X2_sum : Cond.selects RX2 yX2_sum yX2_sum ∈ AW := aw_of (List.mem_of_getElem? (i := 548) (by decide +kernel)) (by decide +kernel)
theorem aw_b_X2_sum : Cond.code yX2_sum cX2_sum 4 none ∈ AW := aw_of (List.mem_of_getElem? (i := 549) (by decide +kernel)) (by decide +kernel)
theorem aw_m_L_97 : Cond.methodLink RL 97 yX2_times ∈ AW := aw_of (List.mem_of_getElem? (i := 550) (by decide +kernel)) (by decide +kernel)
theorem aw_v_X2_times : Cond.instanceMethod yX2_times ∈ AW := aw_of (List.mem_of_getElem? (i := 551) (by decide +kernel)) (by decide +kernel)
theorem aw_e_X2_times : Cond.selects RX2 yX2_times yX2_times ∈ AW := aw_of (List.mem_of_getElem? (i := 552) (by decide +kernel)) (by decide +kernel)
theorem aw_b_X2_times : Cond.code yX2_times cX2_times 4 none ∈ AW := aw_of (List.mem_of_getElem? (i := 553) (by decide +kernel)) (by decide +kernel)
theorem aw_m_X2_84 : Cond.methodLink RX2 84 yX2_modulo ∈ AW := aw_of (List.mem_of_getElem? (i := 554) (by decide +kernel)) (by decide +kernel)
theorem aw_v_X2_modulo : Cond.instanceMethod yX2_modulo ∈ AW := aw_of (List.mem_of_getElem? (i := 556) (by decide +kernel)) (by decide +kernel)
theorem aw_b_X2_modulo : Cond.code yX2_modulo cX2_modulo 5 (some .int) ∈ AW := aw_of (List.mem_of_getElem? (i := 557) (by decide +kernel)) (by decide +kernel)
theorem aw_m_L_101 : Cond.methodLink RL 101 yX2_x ∈ AW := aw_of (List.mem_of_getElem? (i := 558) (by decide +kernel)) (by decide +kernel)
theorem aw_v_X2_x : Cond.instanceMethod yX2_x ∈ AW := aw_of (List.mem_of_getElem? (i := 559) (by decide +kernel)) (by decide +kernel)
theorem aw_e_X2_x : Cond.selects RX2 yX2_x yX2_x ∈ AW := aw_of (List.mem_of_getElem? (i := 560) (by decide +kernel)) (by decide +kernel)
theorem aw_b_X2_x : Cond.code yX2_x cX2_x 2 (some .int) ∈ AW := aw_of (List.mem_of_getElem? (i := 561) (by decide +kernel)) (by decide +kernel)
theorem aw_m_L_104 : Cond.methodLink RL 104 yX2_y ∈ AW := aw_of (List.mem_of_getElem? (i := 562) (by decide +kernel)) (by decide +kernel)
theorem aw_v_X2_y : Cond.instanceMethod yX2_y ∈ AW := aw_of (List.mem_of_getElem? (i := 563) (by decide +kernel)) (by decide +kernel)
theorem aw_e_X2_y : Cond.selects RX2 yX2_y yX2_y ∈ AW := aw_of (List.mem_of_getElem? (i := 564) (by decide +kernel)) (by decide +kernel)
theorem aw_b_X2_y : Cond.code yX2_y cX2_y 2 (some .int) ∈ AW := aw_of (List.mem_of_getElem? (i := 565) (by decide +kernel)) (by decide +kernel)
theorem aw_m_L_108 : Cond.methodLink RL 108 yX2_code ∈ AW := aw_of (List.mem_of_getElem? (i := 566) (by decide +kernel)) (by decide +kernel)
theorem aw_v_X2_code : Cond.instanceMethod yX2_code ∈ AW := aw_of (List.mem_of_getElem? (i := 567) (by decide +kernel)) (by decide +kernel)
theorem aw_e_X2_code : Cond.selects RX2 yX2_code yX2_code ∈ AW := aw_of (List.mem_of_getElem? (i := 568) (by decide +kernel)) (by decide +kernel)
theorem aw_b_X2_code : Cond.code yX2_code cX2_code 3 (some .long) ∈ AW := aw_of (List.mem_of_getElem? (i := 569) (by decide +kernel)) (by decide +kernel)
theorem aw_m_X2_94 : Cond.methodLink RX2 94 yX2_bytesOf ∈ AW := aw_of (List.mem_of_getElem? (i := 570) (by decide +kernel)) (by decide +kernel)
theorem aw_v_X2_bytesOf : Cond.instanceMethod yX2_bytesOf ∈ AW := aw_of (List.mem_of_getElem? (i := 572) (by decide +kernel)) (by decide +kernel)
theorem aw_b_X2_bytesOf : Cond.code yX2_bytesOf cX2_bytesOf 3 (some .long) ∈ AW := aw_of (List.mem_of_getElem? (i := 573) (by decide +kernel)) (by decide +kernel)
theorem aw_k_X2_88 : Cond.constantLong RX2 88 (2) ∈ AW := aw_of (List.mem_of_getElem? (i := 574) (by decide +kernel)) (by decide +kernel)
theorem aw_k_X2_90 : Cond.constantLong RX2 90 (65536) ∈ AW := aw_of (List.mem_of_getElem? (i := 575) (by decide +kernel)) (by decide +kernel)
theorem aw_k_X2_92 : Cond.constantLong RX2 92 (17179869184) ∈ AW := aw_of (List.mem_of_getElem? (i := 576) (by decide +kernel)) (by decide +kernel)
theorem aw_m_L_114 : Cond.methodLink RL 114 yX2_decode ∈ AW := aw_of (List.mem_of_getElem? (i := 577) (by decide +kernel)) (by decide +kernel)
theorem aw_v_X2_decode : Cond.instanceMethod yX2_decode ∈ AW := aw_of (List.mem_of_getElem? (i := 578) (by decide +kernel)) (by decide +kernel)
theorem aw_e_X2_decode : Cond.selects RX2 yX2_decode yX2_decode ∈ AW := aw_of (List.mem_of_getElem? (i := 579) (by decide +kernel)) (by decide +kernel)
theorem aw_b_X2_decode : Cond.code yX2_decode cX2_decode 6 none ∈ AW := aw_of (List.mem_of_getElem? (i := 580) (by decide +kernel)) (by decide +kernel)
theorem aw_m_X2_98 : Cond.methodLink RX2 98 yX2_read ∈ AW := aw_of (List.mem_of_getElem? (i := 581) (by decide +kernel)) (by decide +kernel)
theorem aw_v_X2_read : Cond.instanceMethod yX2_read ∈ AW := aw_of (List.mem_of_getElem? (i := 583) (by decide +kernel)) (by decide +kernel)
theorem aw_b_X2_read : Cond.code yX2_read cX2_read 7 (some .int) ∈ AW := aw_of (List.mem_of_getElem? (i := 584) (by decide +kernel)) (by decide +kernel)
theorem aw_m_L_118 : Cond.methodLink RL 118 yX2_key ∈ AW := aw_of (List.mem_of_getElem? (i := 585) (by decide +kernel)) (by decide +kernel)
theorem aw_v_X2_key : Cond.instanceMethod yX2_key ∈ AW := aw_of (List.mem_of_getElem? (i := 586) (by decide +kernel)) (by decide +kernel)
theorem aw_e_X2_key : Cond.selects RX2 yX2_key yX2_key ∈ AW := aw_of (List.mem_of_getElem? (i := 587) (by decide +kernel)) (by decide +kernel)
theorem aw_b_X2_key : Cond.code yX2_key cX2_key 3 none ∈ AW := aw_of (List.mem_of_getElem? (i := 588) (by decide +kernel)) (by decide +kernel)
theorem aw_m_L_122 : Cond.methodLink RL 122 yX2_sign ∈ AW := aw_of (List.mem_of_getElem? (i := 589) (by decide +kernel)) (by decide +kernel)
theorem aw_v_X2_sign : Cond.instanceMethod yX2_sign ∈ AW := aw_of (List.mem_of_getElem? (i := 590) (by decide +kernel)) (by decide +kernel)
theorem aw_e_X2_sign : Cond.selects RX2 yX2_sign yX2_sign ∈ AW := aw_of (List.mem_of_getElem? (i := 591) (by decide +kernel)) (by decide +kernel)
theorem aw_b_X2_sign : Cond.code yX2_sign cX2_sign 9 (some .long) ∈ AW := aw_of (List.mem_of_getElem? (i := 592) (by decide +kernel)) (by decide +kernel)
theorem aw_m_X2_112 : Cond.methodLink RX2 112 yX2_stir ∈ AW := aw_of (List.mem_of_getElem? (i := 593) (by decide +kernel)) (by decide +kernel)
theorem aw_v_X2_stir : Cond.instanceMethod yX2_stir ∈ AW := aw_of (List.mem_of_getElem? (i := 595) (by decide +kernel)) (by decide +kernel)
theorem aw_b_X2_stir : Cond.code yX2_stir cX2_stir 2 none ∈ AW := aw_of (List.mem_of_getElem? (i := 596) (by decide +kernel)) (by decide +kernel)
theorem aw_m_X2_106 : Cond.methodLink RX2 106 yX2_mix ∈ AW := aw_of (List.mem_of_getElem? (i := 597) (by decide +kernel)) (by decide +kernel)
theorem aw_v_X2_mix : Cond.instanceMethod yX2_mix ∈ AW := aw_of (List.mem_of_getElem? (i := 599) (by decide +kernel)) (by decide +kernel)
theorem aw_b_X2_mix : Cond.code yX2_mix cX2_mix 4 (some .int) ∈ AW := aw_of (List.mem_of_getElem? (i := 600) (by decide +kernel)) (by decide +kernel)
theorem aw_k_X2_102 : Cond.constant RX2 102 (668265261) ∈ AW := aw_of (List.mem_of_getElem? (i := 601) (by decide +kernel)) (by decide +kernel)
theorem aw_m_L_126 : Cond.methodLink RL 126 yX2_draws ∈ AW := aw_of (List.mem_of_getElem? (i := 602) (by decide +kernel)) (by decide +kernel)
theorem aw_v_X2_draws : Cond.instanceMethod yX2_draws ∈ AW := aw_of (List.mem_of_getElem? (i := 603) (by decide +kernel)) (by decide +kernel)
theorem aw_e_X2_draws : Cond.selects RX2 yX2_draws yX2_draws ∈ AW := aw_of (List.mem_of_getElem? (i := 604) (by decide +kernel)) (by decide +kernel)
theorem aw_b_X2_draws : Cond.code yX2_draws cX2_draws 1 (some .int) ∈ AW := aw_of (List.mem_of_getElem? (i := 605) (by decide +kernel)) (by decide +kernel)
theorem aw_m_L_130 : Cond.methodLink RL 130 yX2_verify ∈ AW := aw_of (List.mem_of_getElem? (i := 606) (by decide +kernel)) (by decide +kernel)
theorem aw_v_X2_verify : Cond.instanceMethod yX2_verify ∈ AW := aw_of (List.mem_of_getElem? (i := 607) (by decide +kernel)) (by decide +kernel)
theorem aw_e_X2_verify : Cond.selects RX2 yX2_verify yX2_verify ∈ AW := aw_of (List.mem_of_getElem? (i := 608) (by decide +kernel)) (by decide +kernel)
theorem aw_b_X2_verify : Cond.code yX2_verify cX2_verify 6 (some .boolean) ∈ AW := aw_of (List.mem_of_getElem? (i := 609) (by decide +kernel)) (by decide +kernel)
theorem aw_m_X2_119 : Cond.methodLink RX2 119 yX2_fits ∈ AW := aw_of (List.mem_of_getElem? (i := 610) (by decide +kernel)) (by decide +kernel)
theorem aw_v_X2_fits : Cond.instanceMethod yX2_fits ∈ AW := aw_of (List.mem_of_getElem? (i := 612) (by decide +kernel)) (by decide +kernel)
theorem aw_b_X2_fits : Cond.code yX2_fits cX2_fits 8 (some .boolean) ∈ AW := aw_of (List.mem_of_getElem? (i := 613) (by decide +kernel)) (by decide +kernel)
theorem aw_m_L_134 : Cond.methodLink RL 134 yX2_accepts ∈ AW := aw_of (List.mem_of_getElem? (i := 614) (by decide +kernel)) (by decide +kernel)
theorem aw_v_X2_accepts : Cond.instanceMethod yX2_accepts ∈ AW := aw_of (List.mem_of_getElem? (i := 615) (by decide +kernel)) (by decide +kernel)
theorem aw_e_X2_accepts : Cond.selects RX2 yX2_accepts yX2_accepts ∈ AW := aw_of (List.mem_of_getElem? (i := 616) (by decide +kernel)) (by decide +kernel)
theorem aw_b_X2_accepts : Cond.code yX2_accepts cX2_accepts 9 (some .boolean) ∈ AW := aw_of (List.mem_of_getElem? (i := 617) (by decide +kernel)) (by decide +kernel)
theorem aw_k_L_109 : Cond.constantLong RL 109 (4294967295) ∈ AW := aw_of (List.mem_of_getElem? (i := 618) (by decide +kernel)) (by decide +kernel)
theorem aw_a_long : Cond.arrayClass .long ∈ AW := aw_of (List.mem_of_getElem? (i := 619) (by decide +kernel)) (by decide +kernel)
theorem aw_e_X1_countPoints : Cond.selects RX1 yX1_countPoints yX1_countPoints ∈ AW := aw_of (List.mem_of_getElem? (i := 1) (by decide +kernel)) (by decide +kernel)
theorem aw_e_X1_takenCurve : Cond.selects RX1 yX1_takenCurve yX1_takenCurve ∈ AW := aw_of (List.mem_of_getElem? (i := 2) (by decide +kernel)) (by decide +kernel)
theorem aw_e_X0_slope : Cond.selects RX0 yX0_slope yX0_slope ∈ AW := aw_of (List.mem_of_getElem? (i := 3) (by decide +kernel)) (by decide +kernel)
theorem aw_e_X0_pointOfShort : Cond.selects RX0 yX0_pointOfShort yX0_pointOfShort ∈ AW := aw_of (List.mem_of_getElem? (i := 4) (by decide +kernel)) (by decide +kernel)
theorem aw_e_X0_pointOfPlain : Cond.selects RX0 yX0_pointOfPlain yX0_pointOfPlain ∈ AW := aw_of (List.mem_of_getElem? (i := 5) (by decide +kernel)) (by decide +kernel)
theorem aw_e_X2_count : Cond.selects RX2 yX2_count yX2_count ∈ AW := aw_of (List.mem_of_getElem? (i := 6) (by decide +kernel)) (by decide +kernel)
theorem aw_e_X2_prime : Cond.selects RX2 yX2_prime yX2_prime ∈ AW := aw_of (List.mem_of_getElem? (i := 7) (by decide +kernel)) (by decide +kernel)
theorem aw_e_X2_cube : Cond.selects RX2 yX2_cube yX2_cube ∈ AW := aw_of (List.mem_of_getElem? (i := 8) (by decide +kernel)) (by decide +kernel)
theorem aw_e_X2_good : Cond.selects RX2 yX2_good yX2_good ∈ AW := aw_of (List.mem_of_getElem? (i := 9) (by decide +kernel)) (by decide +kernel)
theorem aw_e_X2_findBase : Cond.selects RX2 yX2_findBase yX2_findBase ∈ AW := aw_of (List.mem_of_getElem? (i := 10) (by decide +kernel)) (by decide +kernel)
theorem aw_e_X2_add : Cond.selects RX2 yX2_add yX2_add ∈ AW := aw_of (List.mem_of_getElem? (i := 11) (by decide +kernel)) (by decide +kernel)
theorem aw_e_X2_inverse : Cond.selects RX2 yX2_inverse yX2_inverse ∈ AW := aw_of (List.mem_of_getElem? (i := 12) (by decide +kernel)) (by decide +kernel)
theorem aw_e_X2_find : Cond.selects RX2 yX2_find yX2_find ∈ AW := aw_of (List.mem_of_getElem? (i := 13) (by decide +kernel)) (by decide +kernel)
theorem aw_e_X2_noRegister : Cond.selects RX2 yX2_noRegister yX2_noRegister ∈ AW := aw_of (List.mem_of_getElem? (i := 14) (by decide +kernel)) (by decide +kernel)
theorem aw_e_X2_modulo : Cond.selects RX2 yX2_modulo yX2_modulo ∈ AW := aw_of (List.mem_of_getElem? (i := 15) (by decide +kernel)) (by decide +kernel)
theorem aw_e_X2_bytesOf : Cond.selects RX2 yX2_bytesOf yX2_bytesOf ∈ AW := aw_of (List.mem_of_getElem? (i := 16) (by decide +kernel)) (by decide +kernel)
theorem aw_e_X2_read : Cond.selects RX2 yX2_read yX2_read ∈ AW := aw_of (List.mem_of_getElem? (i := 17) (by decide +kernel)) (by decide +kernel)
theorem aw_e_X2_stir : Cond.selects RX2 yX2_stir yX2_stir ∈ AW := aw_of (List.mem_of_getElem? (i := 18) (by decide +kernel)) (by decide +kernel)
theorem aw_e_X2_mix : Cond.selects RX2 yX2_mix yX2_mix ∈ AW := aw_of (List.mem_of_getElem? (i := 19) (by decide +kernel)) (by decide +kernel)
theorem aw_e_X2_fits : Cond.selects RX2 yX2_fits yX2_fits ∈ AW := aw_of (List.mem_of_getElem? (i := 20) (by decide +kernel)) (by decide +kernel)
theorem aw_uX0 : ∀ w, w ∈ u_ws RX0 TX0 5 → w ∈ AW := fun w h => aw_of ((show ∀ w, w ∈ u_ws RX0 TX0 5 → w ∈ lw_tbl from by decide +kernel) w h) ((show ∀ w, w ∈ u_ws RX0 TX0 5 → goodWord w = true from by decide +kernel) w h)
theorem aw_uX1 : ∀ w, w ∈ u_ws RX1 TX1 5 → w ∈ AW := fun w h => aw_of ((show ∀ w, w ∈ u_ws RX1 TX1 5 → w ∈ lw_tbl from by decide +kernel) w h) ((show ∀ w, w ∈ u_ws RX1 TX1 5 → goodWord w = true from by decide +kernel) w h)
theorem aw_uX2 : ∀ w, w ∈ u_ws RX2 TX2 15 → w ∈ AW := fun w h => aw_of ((show ∀ w, w ∈ u_ws RX2 TX2 15 → w ∈ lw_tbl from by decide +kernel) w h) ((show ∀ w, w ∈ u_ws RX2 TX2 15 → goodWord w = true from by decide +kernel) w h)

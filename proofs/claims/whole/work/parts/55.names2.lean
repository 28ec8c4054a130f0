/-! Words and decode rows of the law's own methods, by wip/whole/tools/names2.py. -/
theorem aw_h_L_curve : Cond.codeWith yL_curve cL_curve 6 (some .int) [(0, 12, 15, 13)] ∈ AW := aw_of (List.mem_of_getElem? (i := 72) (by decide +kernel)) (by decide +kernel)
theorem aw_h_L_load : Cond.codeWith yL_load cL_load 5 (some .int) [(0, 7, 10, 19), (0, 7, 14, 21), (0, 7, 18, 13)] ∈ AW := aw_of (List.mem_of_getElem? (i := 198) (by decide +kernel)) (by decide +kernel)
theorem aw_h_L_base : Cond.codeWith yL_base cL_base 3 (some .int) [(0, 5, 8, 19), (0, 5, 11, 21)] ∈ AW := aw_of (List.mem_of_getElem? (i := 252) (by decide +kernel)) (by decide +kernel)
theorem aw_h_L_sum : Cond.codeWith yL_sum cL_sum 5 (some .int) [(0, 7, 10, 19), (0, 7, 14, 21)] ∈ AW := aw_of (List.mem_of_getElem? (i := 259) (by decide +kernel)) (by decide +kernel)
theorem aw_h_L_times : Cond.codeWith yL_times cL_times 5 (some .int) [(0, 7, 10, 19), (0, 7, 14, 21)] ∈ AW := aw_of (List.mem_of_getElem? (i := 291) (by decide +kernel)) (by decide +kernel)
theorem aw_h_L_x : Cond.codeWith yL_x cL_x 4 (some .int) [(0, 9, 12, 21)] ∈ AW := aw_of (List.mem_of_getElem? (i := 303) (by decide +kernel)) (by decide +kernel)
theorem aw_h_L_y : Cond.codeWith yL_y cL_y 4 (some .int) [(0, 9, 12, 21)] ∈ AW := aw_of (List.mem_of_getElem? (i := 311) (by decide +kernel)) (by decide +kernel)
theorem aw_h_L_code : Cond.codeWith yL_code cL_code 5 (some .int) [(0, 9, 12, 21)] ∈ AW := aw_of (List.mem_of_getElem? (i := 319) (by decide +kernel)) (by decide +kernel)
theorem aw_h_L_decode : Cond.codeWith yL_decode cL_decode 6 (some .int) [(0, 7, 10, 19), (0, 7, 14, 21), (0, 7, 18, 13)] ∈ AW := aw_of (List.mem_of_getElem? (i := 334) (by decide +kernel)) (by decide +kernel)
theorem aw_h_L_key : Cond.codeWith yL_key cL_key 4 (some .int) [(0, 6, 9, 19), (0, 6, 12, 21), (0, 6, 15, 13)] ∈ AW := aw_of (List.mem_of_getElem? (i := 359) (by decide +kernel)) (by decide +kernel)
theorem aw_h_L_sign : Cond.codeWith yL_sign cL_sign 5 (some .int) [(0, 8, 11, 19), (0, 8, 15, 56)] ∈ AW := aw_of (List.mem_of_getElem? (i := 371) (by decide +kernel)) (by decide +kernel)
theorem aw_h_L_verify : Cond.codeWith yL_verify cL_verify 8 (some .int) [(0, 22, 25, 19), (0, 22, 29, 21)] ∈ AW := aw_of (List.mem_of_getElem? (i := 418) (by decide +kernel)) (by decide +kernel)
theorem aw_h_L_accepts : Cond.codeWith yL_accepts cL_accepts 10 (some .int) [(0, 24, 27, 19)] ∈ AW := aw_of (List.mem_of_getElem? (i := 431) (by decide +kernel)) (by decide +kernel)
theorem dL_curve_0 : decode cL_curve 0 = .ok (.aload 4, 2) := by decide +kernel
theorem dL_curve_2 : decode cL_curve 2 = .ok (.iconst 0, 1) := by decide +kernel
theorem dL_curve_3 : decode cL_curve 3 = .ok (.aload_n 0, 1) := by decide +kernel
theorem dL_curve_4 : decode cL_curve 4 = .ok (.iload_n 1, 1) := by decide +kernel
theorem dL_curve_5 : decode cL_curve 5 = .ok (.iload_n 2, 1) := by decide +kernel
theorem dL_curve_6 : decode cL_curve 6 = .ok (.iload_n 3, 1) := by decide +kernel
theorem dL_curve_7 : decode cL_curve 7 = .ok (.invokevirtual 7, 3) := by decide +kernel
theorem dL_curve_10 : decode cL_curve 10 = .ok (.i2l, 1) := by decide +kernel
theorem dL_curve_11 : decode cL_curve 11 = .ok (.lastore, 1) := by decide +kernel
theorem dL_curve_12 : decode cL_curve 12 = .ok (.goto 7, 3) := by decide +kernel
theorem dL_curve_15 : decode cL_curve 15 = .ok (.astore 5, 2) := by decide +kernel
theorem dL_curve_17 : decode cL_curve 17 = .ok (.iconst 1, 1) := by decide +kernel
theorem dL_curve_18 : decode cL_curve 18 = .ok (.ireturn, 1) := by decide +kernel
theorem dL_curve_19 : decode cL_curve 19 = .ok (.iconst 0, 1) := by decide +kernel
theorem dL_curve_20 : decode cL_curve 20 = .ok (.ireturn, 1) := by decide +kernel
theorem dL_load_0 : decode cL_load 0 = .ok (.aload_n 0, 1) := by decide +kernel
theorem dL_load_1 : decode cL_load 1 = .ok (.iload_n 1, 1) := by decide +kernel
theorem dL_load_2 : decode cL_load 2 = .ok (.iload_n 2, 1) := by decide +kernel
theorem dL_load_3 : decode cL_load 3 = .ok (.iload_n 3, 1) := by decide +kernel
theorem dL_load_4 : decode cL_load 4 = .ok (.invokevirtual 15, 3) := by decide +kernel
theorem dL_load_7 : decode cL_load 7 = .ok (.goto 15, 3) := by decide +kernel
theorem dL_load_10 : decode cL_load 10 = .ok (.astore 4, 2) := by decide +kernel
theorem dL_load_12 : decode cL_load 12 = .ok (.iconst 1, 1) := by decide +kernel
theorem dL_load_13 : decode cL_load 13 = .ok (.ireturn, 1) := by decide +kernel
theorem dL_load_14 : decode cL_load 14 = .ok (.astore 4, 2) := by decide +kernel
theorem dL_load_16 : decode cL_load 16 = .ok (.iconst 2, 1) := by decide +kernel
theorem dL_load_17 : decode cL_load 17 = .ok (.ireturn, 1) := by decide +kernel
theorem dL_load_18 : decode cL_load 18 = .ok (.astore 4, 2) := by decide +kernel
theorem dL_load_20 : decode cL_load 20 = .ok (.iconst 3, 1) := by decide +kernel
theorem dL_load_21 : decode cL_load 21 = .ok (.ireturn, 1) := by decide +kernel
theorem dL_load_22 : decode cL_load 22 = .ok (.iconst 0, 1) := by decide +kernel
theorem dL_load_23 : decode cL_load 23 = .ok (.ireturn, 1) := by decide +kernel
theorem dL_base_0 : decode cL_base 0 = .ok (.aload_n 0, 1) := by decide +kernel
theorem dL_base_1 : decode cL_base 1 = .ok (.iload_n 1, 1) := by decide +kernel
theorem dL_base_2 : decode cL_base 2 = .ok (.invokevirtual 23, 3) := by decide +kernel
theorem dL_base_5 : decode cL_base 5 = .ok (.goto 9, 3) := by decide +kernel
theorem dL_base_8 : decode cL_base 8 = .ok (.astore_n 2, 1) := by decide +kernel
theorem dL_base_9 : decode cL_base 9 = .ok (.iconst 1, 1) := by decide +kernel
theorem dL_base_10 : decode cL_base 10 = .ok (.ireturn, 1) := by decide +kernel
theorem dL_base_11 : decode cL_base 11 = .ok (.astore_n 2, 1) := by decide +kernel
theorem dL_base_12 : decode cL_base 12 = .ok (.iconst 2, 1) := by decide +kernel
theorem dL_base_13 : decode cL_base 13 = .ok (.ireturn, 1) := by decide +kernel
theorem dL_base_14 : decode cL_base 14 = .ok (.iconst 0, 1) := by decide +kernel
theorem dL_base_15 : decode cL_base 15 = .ok (.ireturn, 1) := by decide +kernel
theorem dL_sum_0 : decode cL_sum 0 = .ok (.aload_n 0, 1) := by decide +kernel
theorem dL_sum_1 : decode cL_sum 1 = .ok (.iload_n 1, 1) := by decide +kernel
theorem dL_sum_2 : decode cL_sum 2 = .ok (.iload_n 2, 1) := by decide +kernel
theorem dL_sum_3 : decode cL_sum 3 = .ok (.iload_n 3, 1) := by decide +kernel
theorem dL_sum_4 : decode cL_sum 4 = .ok (.invokevirtual 27, 3) := by decide +kernel
theorem dL_sum_7 : decode cL_sum 7 = .ok (.goto 11, 3) := by decide +kernel
theorem dL_sum_10 : decode cL_sum 10 = .ok (.astore 4, 2) := by decide +kernel
theorem dL_sum_12 : decode cL_sum 12 = .ok (.iconst 1, 1) := by decide +kernel
theorem dL_sum_13 : decode cL_sum 13 = .ok (.ireturn, 1) := by decide +kernel
theorem dL_sum_14 : decode cL_sum 14 = .ok (.astore 4, 2) := by decide +kernel
theorem dL_sum_16 : decode cL_sum 16 = .ok (.iconst 2, 1) := by decide +kernel
theorem dL_sum_17 : decode cL_sum 17 = .ok (.ireturn, 1) := by decide +kernel
theorem dL_sum_18 : decode cL_sum 18 = .ok (.iconst 0, 1) := by decide +kernel
theorem dL_sum_19 : decode cL_sum 19 = .ok (.ireturn, 1) := by decide +kernel
theorem dL_times_0 : decode cL_times 0 = .ok (.aload_n 0, 1) := by decide +kernel
theorem dL_times_1 : decode cL_times 1 = .ok (.iload_n 1, 1) := by decide +kernel
theorem dL_times_2 : decode cL_times 2 = .ok (.iload_n 2, 1) := by decide +kernel
theorem dL_times_3 : decode cL_times 3 = .ok (.iload_n 3, 1) := by decide +kernel
theorem dL_times_4 : decode cL_times 4 = .ok (.invokevirtual 30, 3) := by decide +kernel
theorem dL_times_7 : decode cL_times 7 = .ok (.goto 11, 3) := by decide +kernel
theorem dL_times_10 : decode cL_times 10 = .ok (.astore 4, 2) := by decide +kernel
theorem dL_times_12 : decode cL_times 12 = .ok (.iconst 1, 1) := by decide +kernel
theorem dL_times_13 : decode cL_times 13 = .ok (.ireturn, 1) := by decide +kernel
theorem dL_times_14 : decode cL_times 14 = .ok (.astore 4, 2) := by decide +kernel
theorem dL_times_16 : decode cL_times 16 = .ok (.iconst 2, 1) := by decide +kernel
theorem dL_times_17 : decode cL_times 17 = .ok (.ireturn, 1) := by decide +kernel
theorem dL_times_18 : decode cL_times 18 = .ok (.iconst 0, 1) := by decide +kernel
theorem dL_times_19 : decode cL_times 19 = .ok (.ireturn, 1) := by decide +kernel
theorem dL_x_0 : decode cL_x 0 = .ok (.aload_n 2, 1) := by decide +kernel
theorem dL_x_1 : decode cL_x 1 = .ok (.iconst 0, 1) := by decide +kernel
theorem dL_x_2 : decode cL_x 2 = .ok (.aload_n 0, 1) := by decide +kernel
theorem dL_x_3 : decode cL_x 3 = .ok (.iload_n 1, 1) := by decide +kernel
theorem dL_x_4 : decode cL_x 4 = .ok (.invokevirtual 33, 3) := by decide +kernel
theorem dL_x_7 : decode cL_x 7 = .ok (.i2l, 1) := by decide +kernel
theorem dL_x_8 : decode cL_x 8 = .ok (.lastore, 1) := by decide +kernel
theorem dL_x_9 : decode cL_x 9 = .ok (.goto 6, 3) := by decide +kernel
theorem dL_x_12 : decode cL_x 12 = .ok (.astore_n 3, 1) := by decide +kernel
theorem dL_x_13 : decode cL_x 13 = .ok (.iconst 1, 1) := by decide +kernel
theorem dL_x_14 : decode cL_x 14 = .ok (.ireturn, 1) := by decide +kernel
theorem dL_x_15 : decode cL_x 15 = .ok (.iconst 0, 1) := by decide +kernel
theorem dL_x_16 : decode cL_x 16 = .ok (.ireturn, 1) := by decide +kernel
theorem dL_y_0 : decode cL_y 0 = .ok (.aload_n 2, 1) := by decide +kernel
theorem dL_y_1 : decode cL_y 1 = .ok (.iconst 0, 1) := by decide +kernel
theorem dL_y_2 : decode cL_y 2 = .ok (.aload_n 0, 1) := by decide +kernel
theorem dL_y_3 : decode cL_y 3 = .ok (.iload_n 1, 1) := by decide +kernel
theorem dL_y_4 : decode cL_y 4 = .ok (.invokevirtual 37, 3) := by decide +kernel
theorem dL_y_7 : decode cL_y 7 = .ok (.i2l, 1) := by decide +kernel
theorem dL_y_8 : decode cL_y 8 = .ok (.lastore, 1) := by decide +kernel
theorem dL_y_9 : decode cL_y 9 = .ok (.goto 6, 3) := by decide +kernel
theorem dL_y_12 : decode cL_y 12 = .ok (.astore_n 3, 1) := by decide +kernel
theorem dL_y_13 : decode cL_y 13 = .ok (.iconst 1, 1) := by decide +kernel
theorem dL_y_14 : decode cL_y 14 = .ok (.ireturn, 1) := by decide +kernel
theorem dL_y_15 : decode cL_y 15 = .ok (.iconst 0, 1) := by decide +kernel
theorem dL_y_16 : decode cL_y 16 = .ok (.ireturn, 1) := by decide +kernel
theorem dL_code_0 : decode cL_code 0 = .ok (.aload_n 3, 1) := by decide +kernel
theorem dL_code_1 : decode cL_code 1 = .ok (.iconst 0, 1) := by decide +kernel
theorem dL_code_2 : decode cL_code 2 = .ok (.aload_n 0, 1) := by decide +kernel
theorem dL_code_3 : decode cL_code 3 = .ok (.iload_n 1, 1) := by decide +kernel
theorem dL_code_4 : decode cL_code 4 = .ok (.iload_n 2, 1) := by decide +kernel
theorem dL_code_5 : decode cL_code 5 = .ok (.invokevirtual 40, 3) := by decide +kernel
theorem dL_code_8 : decode cL_code 8 = .ok (.lastore, 1) := by decide +kernel
theorem dL_code_9 : decode cL_code 9 = .ok (.goto 7, 3) := by decide +kernel
theorem dL_code_12 : decode cL_code 12 = .ok (.astore 4, 2) := by decide +kernel
theorem dL_code_14 : decode cL_code 14 = .ok (.iconst 1, 1) := by decide +kernel
theorem dL_code_15 : decode cL_code 15 = .ok (.ireturn, 1) := by decide +kernel
theorem dL_code_16 : decode cL_code 16 = .ok (.iconst 0, 1) := by decide +kernel
theorem dL_code_17 : decode cL_code 17 = .ok (.ireturn, 1) := by decide +kernel
theorem dL_decode_0 : decode cL_decode 0 = .ok (.aload_n 0, 1) := by decide +kernel
theorem dL_decode_1 : decode cL_decode 1 = .ok (.iload_n 1, 1) := by decide +kernel
theorem dL_decode_2 : decode cL_decode 2 = .ok (.iload_n 2, 1) := by decide +kernel
theorem dL_decode_3 : decode cL_decode 3 = .ok (.lload_n 3, 1) := by decide +kernel
theorem dL_decode_4 : decode cL_decode 4 = .ok (.invokevirtual 44, 3) := by decide +kernel
theorem dL_decode_7 : decode cL_decode 7 = .ok (.goto 15, 3) := by decide +kernel
theorem dL_decode_10 : decode cL_decode 10 = .ok (.astore 5, 2) := by decide +kernel
theorem dL_decode_12 : decode cL_decode 12 = .ok (.iconst 1, 1) := by decide +kernel
theorem dL_decode_13 : decode cL_decode 13 = .ok (.ireturn, 1) := by decide +kernel
theorem dL_decode_14 : decode cL_decode 14 = .ok (.astore 5, 2) := by decide +kernel
theorem dL_decode_16 : decode cL_decode 16 = .ok (.iconst 2, 1) := by decide +kernel
theorem dL_decode_17 : decode cL_decode 17 = .ok (.ireturn, 1) := by decide +kernel
theorem dL_decode_18 : decode cL_decode 18 = .ok (.astore 5, 2) := by decide +kernel
theorem dL_decode_20 : decode cL_decode 20 = .ok (.iconst 3, 1) := by decide +kernel
theorem dL_decode_21 : decode cL_decode 21 = .ok (.ireturn, 1) := by decide +kernel
theorem dL_decode_22 : decode cL_decode 22 = .ok (.iconst 0, 1) := by decide +kernel
theorem dL_decode_23 : decode cL_decode 23 = .ok (.ireturn, 1) := by decide +kernel
theorem dL_key_0 : decode cL_key 0 = .ok (.aload_n 0, 1) := by decide +kernel
theorem dL_key_1 : decode cL_key 1 = .ok (.iload_n 1, 1) := by decide +kernel
theorem dL_key_2 : decode cL_key 2 = .ok (.iload_n 2, 1) := by decide +kernel
theorem dL_key_3 : decode cL_key 3 = .ok (.invokevirtual 48, 3) := by decide +kernel
theorem dL_key_6 : decode cL_key 6 = .ok (.goto 12, 3) := by decide +kernel
theorem dL_key_9 : decode cL_key 9 = .ok (.astore_n 3, 1) := by decide +kernel
theorem dL_key_10 : decode cL_key 10 = .ok (.iconst 1, 1) := by decide +kernel
theorem dL_key_11 : decode cL_key 11 = .ok (.ireturn, 1) := by decide +kernel
theorem dL_key_12 : decode cL_key 12 = .ok (.astore_n 3, 1) := by decide +kernel
theorem dL_key_13 : decode cL_key 13 = .ok (.iconst 2, 1) := by decide +kernel
theorem dL_key_14 : decode cL_key 14 = .ok (.ireturn, 1) := by decide +kernel
theorem dL_key_15 : decode cL_key 15 = .ok (.astore_n 3, 1) := by decide +kernel
theorem dL_key_16 : decode cL_key 16 = .ok (.iconst 3, 1) := by decide +kernel
theorem dL_key_17 : decode cL_key 17 = .ok (.ireturn, 1) := by decide +kernel
theorem dL_key_18 : decode cL_key 18 = .ok (.iconst 0, 1) := by decide +kernel
theorem dL_key_19 : decode cL_key 19 = .ok (.ireturn, 1) := by decide +kernel
theorem dL_sign_0 : decode cL_sign 0 = .ok (.aload_n 3, 1) := by decide +kernel
theorem dL_sign_1 : decode cL_sign 1 = .ok (.iconst 0, 1) := by decide +kernel
theorem dL_sign_2 : decode cL_sign 2 = .ok (.aload_n 0, 1) := by decide +kernel
theorem dL_sign_3 : decode cL_sign 3 = .ok (.lload_n 1, 1) := by decide +kernel
theorem dL_sign_4 : decode cL_sign 4 = .ok (.invokevirtual 52, 3) := by decide +kernel
theorem dL_sign_7 : decode cL_sign 7 = .ok (.lastore, 1) := by decide +kernel
theorem dL_sign_8 : decode cL_sign 8 = .ok (.goto 11, 3) := by decide +kernel
theorem dL_sign_11 : decode cL_sign 11 = .ok (.astore 4, 2) := by decide +kernel
theorem dL_sign_13 : decode cL_sign 13 = .ok (.iconst 1, 1) := by decide +kernel
theorem dL_sign_14 : decode cL_sign 14 = .ok (.ireturn, 1) := by decide +kernel
theorem dL_sign_15 : decode cL_sign 15 = .ok (.astore 4, 2) := by decide +kernel
theorem dL_sign_17 : decode cL_sign 17 = .ok (.iconst 2, 1) := by decide +kernel
theorem dL_sign_18 : decode cL_sign 18 = .ok (.ireturn, 1) := by decide +kernel
theorem dL_sign_19 : decode cL_sign 19 = .ok (.iconst 0, 1) := by decide +kernel
theorem dL_sign_20 : decode cL_sign 20 = .ok (.ireturn, 1) := by decide +kernel
theorem dL_verify_0 : decode cL_verify 0 = .ok (.aload 6, 2) := by decide +kernel
theorem dL_verify_2 : decode cL_verify 2 = .ok (.iconst 0, 1) := by decide +kernel
theorem dL_verify_3 : decode cL_verify 3 = .ok (.aload_n 0, 1) := by decide +kernel
theorem dL_verify_4 : decode cL_verify 4 = .ok (.iload_n 1, 1) := by decide +kernel
theorem dL_verify_5 : decode cL_verify 5 = .ok (.lload_n 2, 1) := by decide +kernel
theorem dL_verify_6 : decode cL_verify 6 = .ok (.iload 4, 2) := by decide +kernel
theorem dL_verify_8 : decode cL_verify 8 = .ok (.iload 5, 2) := by decide +kernel
theorem dL_verify_10 : decode cL_verify 10 = .ok (.invokevirtual 58, 3) := by decide +kernel
theorem dL_verify_13 : decode cL_verify 13 = .ok (.ifCond .eq 7, 3) := by decide +kernel
theorem dL_verify_16 : decode cL_verify 16 = .ok (.lconst 1, 1) := by decide +kernel
theorem dL_verify_17 : decode cL_verify 17 = .ok (.goto 4, 3) := by decide +kernel
theorem dL_verify_20 : decode cL_verify 20 = .ok (.lconst 0, 1) := by decide +kernel
theorem dL_verify_21 : decode cL_verify 21 = .ok (.lastore, 1) := by decide +kernel
theorem dL_verify_22 : decode cL_verify 22 = .ok (.goto 11, 3) := by decide +kernel
theorem dL_verify_25 : decode cL_verify 25 = .ok (.astore 7, 2) := by decide +kernel
theorem dL_verify_27 : decode cL_verify 27 = .ok (.iconst 1, 1) := by decide +kernel
theorem dL_verify_28 : decode cL_verify 28 = .ok (.ireturn, 1) := by decide +kernel
theorem dL_verify_29 : decode cL_verify 29 = .ok (.astore 7, 2) := by decide +kernel
theorem dL_verify_31 : decode cL_verify 31 = .ok (.iconst 2, 1) := by decide +kernel
theorem dL_verify_32 : decode cL_verify 32 = .ok (.ireturn, 1) := by decide +kernel
theorem dL_verify_33 : decode cL_verify 33 = .ok (.iconst 0, 1) := by decide +kernel
theorem dL_verify_34 : decode cL_verify 34 = .ok (.ireturn, 1) := by decide +kernel
theorem dL_accepts_0 : decode cL_accepts 0 = .ok (.aload 8, 2) := by decide +kernel
theorem dL_accepts_2 : decode cL_accepts 2 = .ok (.iconst 0, 1) := by decide +kernel
theorem dL_accepts_3 : decode cL_accepts 3 = .ok (.aload_n 0, 1) := by decide +kernel
theorem dL_accepts_4 : decode cL_accepts 4 = .ok (.iload_n 1, 1) := by decide +kernel
theorem dL_accepts_5 : decode cL_accepts 5 = .ok (.lload_n 2, 1) := by decide +kernel
theorem dL_accepts_6 : decode cL_accepts 6 = .ok (.lload 4, 2) := by decide +kernel
theorem dL_accepts_8 : decode cL_accepts 8 = .ok (.iload 6, 2) := by decide +kernel
theorem dL_accepts_10 : decode cL_accepts 10 = .ok (.iload 7, 2) := by decide +kernel
theorem dL_accepts_12 : decode cL_accepts 12 = .ok (.invokevirtual 62, 3) := by decide +kernel
theorem dL_accepts_15 : decode cL_accepts 15 = .ok (.ifCond .eq 7, 3) := by decide +kernel
theorem dL_accepts_18 : decode cL_accepts 18 = .ok (.lconst 1, 1) := by decide +kernel
theorem dL_accepts_19 : decode cL_accepts 19 = .ok (.goto 4, 3) := by decide +kernel
theorem dL_accepts_22 : decode cL_accepts 22 = .ok (.lconst 0, 1) := by decide +kernel
theorem dL_accepts_23 : decode cL_accepts 23 = .ok (.lastore, 1) := by decide +kernel
theorem dL_accepts_24 : decode cL_accepts 24 = .ok (.goto 7, 3) := by decide +kernel
theorem dL_accepts_27 : decode cL_accepts 27 = .ok (.astore 9, 2) := by decide +kernel
theorem dL_accepts_29 : decode cL_accepts 29 = .ok (.iconst 1, 1) := by decide +kernel
theorem dL_accepts_30 : decode cL_accepts 30 = .ok (.ireturn, 1) := by decide +kernel
theorem dL_accepts_31 : decode cL_accepts 31 = .ok (.iconst 0, 1) := by decide +kernel
theorem dL_accepts_32 : decode cL_accepts 32 = .ok (.ireturn, 1) := by decide +kernel

/-! Decode rows, by wip/whole/tools/decode.py. -/
theorem dX1_init_0 : decode cX1_init 0 = .ok (.aload_n 0, 1) := by decide +kernel
theorem dX1_init_1 : decode cX1_init 1 = .ok (.invokespecial 1, 3) := by decide +kernel
theorem dX1_init_4 : decode cX1_init 4 = .ok (.aload_n 0, 1) := by decide +kernel
theorem dX1_init_5 : decode cX1_init 5 = .ok (.iconst 4, 1) := by decide +kernel
theorem dX1_init_6 : decode cX1_init 6 = .ok (.newarray .int, 2) := by decide +kernel
theorem dX1_init_8 : decode cX1_init 8 = .ok (.putfield 9, 3) := by decide +kernel
theorem dX1_init_11 : decode cX1_init 11 = .ok (.aload_n 0, 1) := by decide +kernel
theorem dX1_init_12 : decode cX1_init 12 = .ok (.sipush 1021, 3) := by decide +kernel
theorem dX1_init_15 : decode cX1_init 15 = .ok (.newarray .int, 2) := by decide +kernel
theorem dX1_init_17 : decode cX1_init 17 = .ok (.putfield 13, 3) := by decide +kernel
theorem dX1_init_20 : decode cX1_init 20 = .ok (.aload_n 0, 1) := by decide +kernel
theorem dX1_init_21 : decode cX1_init 21 = .ok (.getfield 9, 3) := by decide +kernel
theorem dX1_init_24 : decode cX1_init 24 = .ok (.iconst (-1), 1) := by decide +kernel
theorem dX1_init_25 : decode cX1_init 25 = .ok (.invokestatic 16, 3) := by decide +kernel
theorem dX1_init_28 : decode cX1_init 28 = .ok (.aload_n 0, 1) := by decide +kernel
theorem dX1_init_29 : decode cX1_init 29 = .ok (.aconst_null, 1) := by decide +kernel
theorem dX1_init_30 : decode cX1_init 30 = .ok (.putfield 22, 3) := by decide +kernel
theorem dX1_init_33 : decode cX1_init 33 = .ok (.aload_n 0, 1) := by decide +kernel
theorem dX1_init_34 : decode cX1_init 34 = .ok (.iconst 0, 1) := by decide +kernel
theorem dX1_init_35 : decode cX1_init 35 = .ok (.putfield 26, 3) := by decide +kernel
theorem dX1_init_38 : decode cX1_init 38 = .ok (.aload_n 0, 1) := by decide +kernel
theorem dX1_init_39 : decode cX1_init 39 = .ok (.iconst 0, 1) := by decide +kernel
theorem dX1_init_40 : decode cX1_init 40 = .ok (.putfield 30, 3) := by decide +kernel
theorem dX1_init_43 : decode cX1_init 43 = .ok (.return_, 1) := by decide +kernel
theorem dX1_curve_0 : decode cX1_curve 0 = .ok (.iload_n 1, 1) := by decide +kernel
theorem dX1_curve_1 : decode cX1_curve 1 = .ok (.iload_n 2, 1) := by decide +kernel
theorem dX1_curve_2 : decode cX1_curve 2 = .ok (.iload_n 3, 1) := by decide +kernel
theorem dX1_curve_3 : decode cX1_curve 3 = .ok (.invokestatic 33, 3) := by decide +kernel
theorem dX1_curve_6 : decode cX1_curve 6 = .ok (.ifCond .ne 13, 3) := by decide +kernel
theorem dX1_curve_9 : decode cX1_curve 9 = .ok (.new 37, 3) := by decide +kernel
theorem dX1_curve_12 : decode cX1_curve 12 = .ok (.dup, 1) := by decide +kernel
theorem dX1_curve_13 : decode cX1_curve 13 = .ok (.ldc 39, 2) := by decide +kernel
theorem dX1_curve_15 : decode cX1_curve 15 = .ok (.invokespecial 41, 3) := by decide +kernel
theorem dX1_curve_18 : decode cX1_curve 18 = .ok (.athrow, 1) := by decide +kernel
theorem dX1_curve_19 : decode cX1_curve 19 = .ok (.aload_n 0, 1) := by decide +kernel
theorem dX1_curve_20 : decode cX1_curve 20 = .ok (.iload_n 1, 1) := by decide +kernel
theorem dX1_curve_21 : decode cX1_curve 21 = .ok (.iload_n 2, 1) := by decide +kernel
theorem dX1_curve_22 : decode cX1_curve 22 = .ok (.iload_n 3, 1) := by decide +kernel
theorem dX1_curve_23 : decode cX1_curve 23 = .ok (.invokevirtual 44, 3) := by decide +kernel
theorem dX1_curve_26 : decode cX1_curve 26 = .ok (.istore 4, 2) := by decide +kernel
theorem dX1_curve_28 : decode cX1_curve 28 = .ok (.iload 4, 2) := by decide +kernel
theorem dX1_curve_30 : decode cX1_curve 30 = .ok (.iconst 2, 1) := by decide +kernel
theorem dX1_curve_31 : decode cX1_curve 31 = .ok (.if_icmp .le 11, 3) := by decide +kernel
theorem dX1_curve_34 : decode cX1_curve 34 = .ok (.iload 4, 2) := by decide +kernel
theorem dX1_curve_36 : decode cX1_curve 36 = .ok (.invokestatic 48, 3) := by decide +kernel
theorem dX1_curve_39 : decode cX1_curve 39 = .ok (.ifCond .ne 13, 3) := by decide +kernel
theorem dX1_curve_42 : decode cX1_curve 42 = .ok (.new 37, 3) := by decide +kernel
theorem dX1_curve_45 : decode cX1_curve 45 = .ok (.dup, 1) := by decide +kernel
theorem dX1_curve_46 : decode cX1_curve 46 = .ok (.ldc 52, 2) := by decide +kernel
theorem dX1_curve_48 : decode cX1_curve 48 = .ok (.invokespecial 41, 3) := by decide +kernel
theorem dX1_curve_51 : decode cX1_curve 51 = .ok (.athrow, 1) := by decide +kernel
theorem dX1_curve_52 : decode cX1_curve 52 = .ok (.aload_n 0, 1) := by decide +kernel
theorem dX1_curve_53 : decode cX1_curve 53 = .ok (.new 54, 3) := by decide +kernel
theorem dX1_curve_56 : decode cX1_curve 56 = .ok (.dup, 1) := by decide +kernel
theorem dX1_curve_57 : decode cX1_curve 57 = .ok (.iload_n 1, 1) := by decide +kernel
theorem dX1_curve_58 : decode cX1_curve 58 = .ok (.iload_n 2, 1) := by decide +kernel
theorem dX1_curve_59 : decode cX1_curve 59 = .ok (.iload_n 3, 1) := by decide +kernel
theorem dX1_curve_60 : decode cX1_curve 60 = .ok (.iload 4, 2) := by decide +kernel
theorem dX1_curve_62 : decode cX1_curve 62 = .ok (.invokespecial 56, 3) := by decide +kernel
theorem dX1_curve_65 : decode cX1_curve 65 = .ok (.putfield 22, 3) := by decide +kernel
theorem dX1_curve_68 : decode cX1_curve 68 = .ok (.aload_n 0, 1) := by decide +kernel
theorem dX1_curve_69 : decode cX1_curve 69 = .ok (.getfield 9, 3) := by decide +kernel
theorem dX1_curve_72 : decode cX1_curve 72 = .ok (.iconst (-1), 1) := by decide +kernel
theorem dX1_curve_73 : decode cX1_curve 73 = .ok (.invokestatic 16, 3) := by decide +kernel
theorem dX1_curve_76 : decode cX1_curve 76 = .ok (.aload_n 0, 1) := by decide +kernel
theorem dX1_curve_77 : decode cX1_curve 77 = .ok (.iconst 0, 1) := by decide +kernel
theorem dX1_curve_78 : decode cX1_curve 78 = .ok (.putfield 26, 3) := by decide +kernel
theorem dX1_curve_81 : decode cX1_curve 81 = .ok (.iload 4, 2) := by decide +kernel
theorem dX1_curve_83 : decode cX1_curve 83 = .ok (.ireturn, 1) := by decide +kernel
theorem dX1_order_0 : decode cX1_order 0 = .ok (.aload_n 0, 1) := by decide +kernel
theorem dX1_order_1 : decode cX1_order 1 = .ok (.getfield 22, 3) := by decide +kernel
theorem dX1_order_4 : decode cX1_order 4 = .ok (.ifnonnull 7, 3) := by decide +kernel
theorem dX1_order_7 : decode cX1_order 7 = .ok (.iconst 0, 1) := by decide +kernel
theorem dX1_order_8 : decode cX1_order 8 = .ok (.goto 10, 3) := by decide +kernel
theorem dX1_order_11 : decode cX1_order 11 = .ok (.aload_n 0, 1) := by decide +kernel
theorem dX1_order_12 : decode cX1_order 12 = .ok (.getfield 22, 3) := by decide +kernel
theorem dX1_order_15 : decode cX1_order 15 = .ok (.getfield 59, 3) := by decide +kernel
theorem dX1_order_18 : decode cX1_order 18 = .ok (.ireturn, 1) := by decide +kernel
theorem dX1_load_0 : decode cX1_load 0 = .ok (.aload_n 0, 1) := by decide +kernel
theorem dX1_load_1 : decode cX1_load 1 = .ok (.invokevirtual 62, 3) := by decide +kernel
theorem dX1_load_4 : decode cX1_load 4 = .ok (.astore 4, 2) := by decide +kernel
theorem dX1_load_6 : decode cX1_load 6 = .ok (.iload_n 1, 1) := by decide +kernel
theorem dX1_load_7 : decode cX1_load 7 = .ok (.invokestatic 66, 3) := by decide +kernel
theorem dX1_load_10 : decode cX1_load 10 = .ok (.aload 4, 2) := by decide +kernel
theorem dX1_load_12 : decode cX1_load 12 = .ok (.iload_n 2, 1) := by decide +kernel
theorem dX1_load_13 : decode cX1_load 13 = .ok (.iload_n 3, 1) := by decide +kernel
theorem dX1_load_14 : decode cX1_load 14 = .ok (.invokevirtual 70, 3) := by decide +kernel
theorem dX1_load_17 : decode cX1_load 17 = .ok (.ifCond .ne 13, 3) := by decide +kernel
theorem dX1_load_20 : decode cX1_load 20 = .ok (.new 37, 3) := by decide +kernel
theorem dX1_load_23 : decode cX1_load 23 = .ok (.dup, 1) := by decide +kernel
theorem dX1_load_24 : decode cX1_load 24 = .ok (.ldc 74, 2) := by decide +kernel
theorem dX1_load_26 : decode cX1_load 26 = .ok (.invokespecial 41, 3) := by decide +kernel
theorem dX1_load_29 : decode cX1_load 29 = .ok (.athrow, 1) := by decide +kernel
theorem dX1_load_30 : decode cX1_load 30 = .ok (.aload_n 0, 1) := by decide +kernel
theorem dX1_load_31 : decode cX1_load 31 = .ok (.getfield 9, 3) := by decide +kernel
theorem dX1_load_34 : decode cX1_load 34 = .ok (.iload_n 1, 1) := by decide +kernel
theorem dX1_load_35 : decode cX1_load 35 = .ok (.iload_n 2, 1) := by decide +kernel
theorem dX1_load_36 : decode cX1_load 36 = .ok (.iload_n 3, 1) := by decide +kernel
theorem dX1_load_37 : decode cX1_load 37 = .ok (.invokestatic 76, 3) := by decide +kernel
theorem dX1_load_40 : decode cX1_load 40 = .ok (.iastore, 1) := by decide +kernel
theorem dX1_load_41 : decode cX1_load 41 = .ok (.return_, 1) := by decide +kernel
theorem dX1_base_0 : decode cX1_base 0 = .ok (.aload_n 0, 1) := by decide +kernel
theorem dX1_base_1 : decode cX1_base 1 = .ok (.invokevirtual 62, 3) := by decide +kernel
theorem dX1_base_4 : decode cX1_base 4 = .ok (.astore_n 2, 1) := by decide +kernel
theorem dX1_base_5 : decode cX1_base 5 = .ok (.iload_n 1, 1) := by decide +kernel
theorem dX1_base_6 : decode cX1_base 6 = .ok (.invokestatic 66, 3) := by decide +kernel
theorem dX1_base_9 : decode cX1_base 9 = .ok (.aload_n 0, 1) := by decide +kernel
theorem dX1_base_10 : decode cX1_base 10 = .ok (.getfield 9, 3) := by decide +kernel
theorem dX1_base_13 : decode cX1_base 13 = .ok (.iload_n 1, 1) := by decide +kernel
theorem dX1_base_14 : decode cX1_base 14 = .ok (.aload_n 2, 1) := by decide +kernel
theorem dX1_base_15 : decode cX1_base 15 = .ok (.getfield 80, 3) := by decide +kernel
theorem dX1_base_18 : decode cX1_base 18 = .ok (.iastore, 1) := by decide +kernel
theorem dX1_base_19 : decode cX1_base 19 = .ok (.return_, 1) := by decide +kernel
theorem dX1_sum_0 : decode cX1_sum 0 = .ok (.aload_n 0, 1) := by decide +kernel
theorem dX1_sum_1 : decode cX1_sum 1 = .ok (.invokevirtual 62, 3) := by decide +kernel
theorem dX1_sum_4 : decode cX1_sum 4 = .ok (.astore 4, 2) := by decide +kernel
theorem dX1_sum_6 : decode cX1_sum 6 = .ok (.iload_n 1, 1) := by decide +kernel
theorem dX1_sum_7 : decode cX1_sum 7 = .ok (.invokestatic 66, 3) := by decide +kernel
theorem dX1_sum_10 : decode cX1_sum 10 = .ok (.iload_n 2, 1) := by decide +kernel
theorem dX1_sum_11 : decode cX1_sum 11 = .ok (.invokestatic 66, 3) := by decide +kernel
theorem dX1_sum_14 : decode cX1_sum 14 = .ok (.iload_n 3, 1) := by decide +kernel
theorem dX1_sum_15 : decode cX1_sum 15 = .ok (.invokestatic 66, 3) := by decide +kernel
theorem dX1_sum_18 : decode cX1_sum 18 = .ok (.aload_n 0, 1) := by decide +kernel
theorem dX1_sum_19 : decode cX1_sum 19 = .ok (.getfield 9, 3) := by decide +kernel
theorem dX1_sum_22 : decode cX1_sum 22 = .ok (.iload_n 1, 1) := by decide +kernel
theorem dX1_sum_23 : decode cX1_sum 23 = .ok (.aload 4, 2) := by decide +kernel
theorem dX1_sum_25 : decode cX1_sum 25 = .ok (.aload_n 0, 1) := by decide +kernel
theorem dX1_sum_26 : decode cX1_sum 26 = .ok (.getfield 9, 3) := by decide +kernel
theorem dX1_sum_29 : decode cX1_sum 29 = .ok (.iload_n 2, 1) := by decide +kernel
theorem dX1_sum_30 : decode cX1_sum 30 = .ok (.iaload, 1) := by decide +kernel
theorem dX1_sum_31 : decode cX1_sum 31 = .ok (.aload_n 0, 1) := by decide +kernel
theorem dX1_sum_32 : decode cX1_sum 32 = .ok (.getfield 9, 3) := by decide +kernel
theorem dX1_sum_35 : decode cX1_sum 35 = .ok (.iload_n 3, 1) := by decide +kernel
theorem dX1_sum_36 : decode cX1_sum 36 = .ok (.iaload, 1) := by decide +kernel
theorem dX1_sum_37 : decode cX1_sum 37 = .ok (.invokevirtual 83, 3) := by decide +kernel
theorem dX1_sum_40 : decode cX1_sum 40 = .ok (.iastore, 1) := by decide +kernel
theorem dX1_sum_41 : decode cX1_sum 41 = .ok (.return_, 1) := by decide +kernel
theorem dX1_times_0 : decode cX1_times 0 = .ok (.aload_n 0, 1) := by decide +kernel
theorem dX1_times_1 : decode cX1_times 1 = .ok (.invokevirtual 62, 3) := by decide +kernel
theorem dX1_times_4 : decode cX1_times 4 = .ok (.astore 4, 2) := by decide +kernel
theorem dX1_times_6 : decode cX1_times 6 = .ok (.iload_n 1, 1) := by decide +kernel
theorem dX1_times_7 : decode cX1_times 7 = .ok (.invokestatic 66, 3) := by decide +kernel
theorem dX1_times_10 : decode cX1_times 10 = .ok (.iload_n 3, 1) := by decide +kernel
theorem dX1_times_11 : decode cX1_times 11 = .ok (.invokestatic 66, 3) := by decide +kernel
theorem dX1_times_14 : decode cX1_times 14 = .ok (.aload_n 0, 1) := by decide +kernel
theorem dX1_times_15 : decode cX1_times 15 = .ok (.getfield 9, 3) := by decide +kernel
theorem dX1_times_18 : decode cX1_times 18 = .ok (.iload_n 1, 1) := by decide +kernel
theorem dX1_times_19 : decode cX1_times 19 = .ok (.aload 4, 2) := by decide +kernel
theorem dX1_times_21 : decode cX1_times 21 = .ok (.iload_n 2, 1) := by decide +kernel
theorem dX1_times_22 : decode cX1_times 22 = .ok (.aload_n 0, 1) := by decide +kernel
theorem dX1_times_23 : decode cX1_times 23 = .ok (.getfield 9, 3) := by decide +kernel
theorem dX1_times_26 : decode cX1_times 26 = .ok (.iload_n 3, 1) := by decide +kernel
theorem dX1_times_27 : decode cX1_times 27 = .ok (.iaload, 1) := by decide +kernel
theorem dX1_times_28 : decode cX1_times 28 = .ok (.invokevirtual 86, 3) := by decide +kernel
theorem dX1_times_31 : decode cX1_times 31 = .ok (.iastore, 1) := by decide +kernel
theorem dX1_times_32 : decode cX1_times 32 = .ok (.return_, 1) := by decide +kernel
theorem dX1_x_0 : decode cX1_x 0 = .ok (.iload_n 1, 1) := by decide +kernel
theorem dX1_x_1 : decode cX1_x 1 = .ok (.invokestatic 66, 3) := by decide +kernel
theorem dX1_x_4 : decode cX1_x 4 = .ok (.aload_n 0, 1) := by decide +kernel
theorem dX1_x_5 : decode cX1_x 5 = .ok (.getfield 9, 3) := by decide +kernel
theorem dX1_x_8 : decode cX1_x 8 = .ok (.iload_n 1, 1) := by decide +kernel
theorem dX1_x_9 : decode cX1_x 9 = .ok (.iaload, 1) := by decide +kernel
theorem dX1_x_10 : decode cX1_x 10 = .ok (.iconst (-1), 1) := by decide +kernel
theorem dX1_x_11 : decode cX1_x 11 = .ok (.if_icmp .ne 7, 3) := by decide +kernel
theorem dX1_x_14 : decode cX1_x 14 = .ok (.iconst (-1), 1) := by decide +kernel
theorem dX1_x_15 : decode cX1_x 15 = .ok (.goto 12, 3) := by decide +kernel
theorem dX1_x_18 : decode cX1_x 18 = .ok (.aload_n 0, 1) := by decide +kernel
theorem dX1_x_19 : decode cX1_x 19 = .ok (.getfield 9, 3) := by decide +kernel
theorem dX1_x_22 : decode cX1_x 22 = .ok (.iload_n 1, 1) := by decide +kernel
theorem dX1_x_23 : decode cX1_x 23 = .ok (.iaload, 1) := by decide +kernel
theorem dX1_x_24 : decode cX1_x 24 = .ok (.invokestatic 89, 3) := by decide +kernel
theorem dX1_x_27 : decode cX1_x 27 = .ok (.ireturn, 1) := by decide +kernel
theorem dX1_y_0 : decode cX1_y 0 = .ok (.iload_n 1, 1) := by decide +kernel
theorem dX1_y_1 : decode cX1_y 1 = .ok (.invokestatic 66, 3) := by decide +kernel
theorem dX1_y_4 : decode cX1_y 4 = .ok (.aload_n 0, 1) := by decide +kernel
theorem dX1_y_5 : decode cX1_y 5 = .ok (.getfield 9, 3) := by decide +kernel
theorem dX1_y_8 : decode cX1_y 8 = .ok (.iload_n 1, 1) := by decide +kernel
theorem dX1_y_9 : decode cX1_y 9 = .ok (.iaload, 1) := by decide +kernel
theorem dX1_y_10 : decode cX1_y 10 = .ok (.iconst (-1), 1) := by decide +kernel
theorem dX1_y_11 : decode cX1_y 11 = .ok (.if_icmp .ne 7, 3) := by decide +kernel
theorem dX1_y_14 : decode cX1_y 14 = .ok (.iconst (-1), 1) := by decide +kernel
theorem dX1_y_15 : decode cX1_y 15 = .ok (.goto 12, 3) := by decide +kernel
theorem dX1_y_18 : decode cX1_y 18 = .ok (.aload_n 0, 1) := by decide +kernel
theorem dX1_y_19 : decode cX1_y 19 = .ok (.getfield 9, 3) := by decide +kernel
theorem dX1_y_22 : decode cX1_y 22 = .ok (.iload_n 1, 1) := by decide +kernel
theorem dX1_y_23 : decode cX1_y 23 = .ok (.iaload, 1) := by decide +kernel
theorem dX1_y_24 : decode cX1_y 24 = .ok (.invokestatic 93, 3) := by decide +kernel
theorem dX1_y_27 : decode cX1_y 27 = .ok (.ireturn, 1) := by decide +kernel
theorem dX1_code_0 : decode cX1_code 0 = .ok (.iload_n 1, 1) := by decide +kernel
theorem dX1_code_1 : decode cX1_code 1 = .ok (.invokestatic 66, 3) := by decide +kernel
theorem dX1_code_4 : decode cX1_code 4 = .ok (.aload_n 0, 1) := by decide +kernel
theorem dX1_code_5 : decode cX1_code 5 = .ok (.getfield 9, 3) := by decide +kernel
theorem dX1_code_8 : decode cX1_code 8 = .ok (.iload_n 1, 1) := by decide +kernel
theorem dX1_code_9 : decode cX1_code 9 = .ok (.iaload, 1) := by decide +kernel
theorem dX1_code_10 : decode cX1_code 10 = .ok (.istore_n 3, 1) := by decide +kernel
theorem dX1_code_11 : decode cX1_code 11 = .ok (.iload_n 3, 1) := by decide +kernel
theorem dX1_code_12 : decode cX1_code 12 = .ok (.iconst (-1), 1) := by decide +kernel
theorem dX1_code_13 : decode cX1_code 13 = .ok (.if_icmp .ne 5, 3) := by decide +kernel
theorem dX1_code_16 : decode cX1_code 16 = .ok (.lconst 0, 1) := by decide +kernel
theorem dX1_code_17 : decode cX1_code 17 = .ok (.lreturn, 1) := by decide +kernel
theorem dX1_code_18 : decode cX1_code 18 = .ok (.iload_n 2, 1) := by decide +kernel
theorem dX1_code_19 : decode cX1_code 19 = .ok (.ifCond .eq 10, 3) := by decide +kernel
theorem dX1_code_22 : decode cX1_code 22 = .ok (.iload_n 3, 1) := by decide +kernel
theorem dX1_code_23 : decode cX1_code 23 = .ok (.invokestatic 96, 3) := by decide +kernel
theorem dX1_code_26 : decode cX1_code 26 = .ok (.goto 7, 3) := by decide +kernel
theorem dX1_code_29 : decode cX1_code 29 = .ok (.iload_n 3, 1) := by decide +kernel
theorem dX1_code_30 : decode cX1_code 30 = .ok (.invokestatic 100, 3) := by decide +kernel
theorem dX1_code_33 : decode cX1_code 33 = .ok (.lreturn, 1) := by decide +kernel
theorem dX1_decode_0 : decode cX1_decode 0 = .ok (.aload_n 0, 1) := by decide +kernel
theorem dX1_decode_1 : decode cX1_decode 1 = .ok (.invokevirtual 62, 3) := by decide +kernel
theorem dX1_decode_4 : decode cX1_decode 4 = .ok (.astore 5, 2) := by decide +kernel
theorem dX1_decode_6 : decode cX1_decode 6 = .ok (.iload_n 1, 1) := by decide +kernel
theorem dX1_decode_7 : decode cX1_decode 7 = .ok (.invokestatic 66, 3) := by decide +kernel
theorem dX1_decode_10 : decode cX1_decode 10 = .ok (.aload 5, 2) := by decide +kernel
theorem dX1_decode_12 : decode cX1_decode 12 = .ok (.iload_n 2, 1) := by decide +kernel
theorem dX1_decode_13 : decode cX1_decode 13 = .ok (.lload_n 3, 1) := by decide +kernel
theorem dX1_decode_14 : decode cX1_decode 14 = .ok (.invokevirtual 103, 3) := by decide +kernel
theorem dX1_decode_17 : decode cX1_decode 17 = .ok (.istore 6, 2) := by decide +kernel
theorem dX1_decode_19 : decode cX1_decode 19 = .ok (.iload 6, 2) := by decide +kernel
theorem dX1_decode_21 : decode cX1_decode 21 = .ok (.bipush (-2), 2) := by decide +kernel
theorem dX1_decode_23 : decode cX1_decode 23 = .ok (.if_icmp .ne 13, 3) := by decide +kernel
theorem dX1_decode_26 : decode cX1_decode 26 = .ok (.new 37, 3) := by decide +kernel
theorem dX1_decode_29 : decode cX1_decode 29 = .ok (.dup, 1) := by decide +kernel
theorem dX1_decode_30 : decode cX1_decode 30 = .ok (.ldc 107, 2) := by decide +kernel
theorem dX1_decode_32 : decode cX1_decode 32 = .ok (.invokespecial 41, 3) := by decide +kernel
theorem dX1_decode_35 : decode cX1_decode 35 = .ok (.athrow, 1) := by decide +kernel
theorem dX1_decode_36 : decode cX1_decode 36 = .ok (.aload_n 0, 1) := by decide +kernel
theorem dX1_decode_37 : decode cX1_decode 37 = .ok (.getfield 9, 3) := by decide +kernel
theorem dX1_decode_40 : decode cX1_decode 40 = .ok (.iload_n 1, 1) := by decide +kernel
theorem dX1_decode_41 : decode cX1_decode 41 = .ok (.iload 6, 2) := by decide +kernel
theorem dX1_decode_43 : decode cX1_decode 43 = .ok (.iastore, 1) := by decide +kernel
theorem dX1_decode_44 : decode cX1_decode 44 = .ok (.return_, 1) := by decide +kernel
theorem dX1_key_0 : decode cX1_key 0 = .ok (.aload_n 0, 1) := by decide +kernel
theorem dX1_key_1 : decode cX1_key 1 = .ok (.invokevirtual 62, 3) := by decide +kernel
theorem dX1_key_4 : decode cX1_key 4 = .ok (.astore_n 3, 1) := by decide +kernel
theorem dX1_key_5 : decode cX1_key 5 = .ok (.iload_n 1, 1) := by decide +kernel
theorem dX1_key_6 : decode cX1_key 6 = .ok (.invokestatic 66, 3) := by decide +kernel
theorem dX1_key_9 : decode cX1_key 9 = .ok (.aload_n 3, 1) := by decide +kernel
theorem dX1_key_10 : decode cX1_key 10 = .ok (.iload_n 2, 1) := by decide +kernel
theorem dX1_key_11 : decode cX1_key 11 = .ok (.invokevirtual 109, 3) := by decide +kernel
theorem dX1_key_14 : decode cX1_key 14 = .ok (.ifCond .ne 13, 3) := by decide +kernel
theorem dX1_key_17 : decode cX1_key 17 = .ok (.new 37, 3) := by decide +kernel
theorem dX1_key_20 : decode cX1_key 20 = .ok (.dup, 1) := by decide +kernel
theorem dX1_key_21 : decode cX1_key 21 = .ok (.ldc 112, 2) := by decide +kernel
theorem dX1_key_23 : decode cX1_key 23 = .ok (.invokespecial 41, 3) := by decide +kernel
theorem dX1_key_26 : decode cX1_key 26 = .ok (.athrow, 1) := by decide +kernel
theorem dX1_key_27 : decode cX1_key 27 = .ok (.aload_n 0, 1) := by decide +kernel
theorem dX1_key_28 : decode cX1_key 28 = .ok (.iload_n 2, 1) := by decide +kernel
theorem dX1_key_29 : decode cX1_key 29 = .ok (.putfield 26, 3) := by decide +kernel
theorem dX1_key_32 : decode cX1_key 32 = .ok (.aload_n 0, 1) := by decide +kernel
theorem dX1_key_33 : decode cX1_key 33 = .ok (.getfield 9, 3) := by decide +kernel
theorem dX1_key_36 : decode cX1_key 36 = .ok (.iload_n 1, 1) := by decide +kernel
theorem dX1_key_37 : decode cX1_key 37 = .ok (.aload_n 3, 1) := by decide +kernel
theorem dX1_key_38 : decode cX1_key 38 = .ok (.iload_n 2, 1) := by decide +kernel
theorem dX1_key_39 : decode cX1_key 39 = .ok (.aload_n 3, 1) := by decide +kernel
theorem dX1_key_40 : decode cX1_key 40 = .ok (.getfield 80, 3) := by decide +kernel
theorem dX1_key_43 : decode cX1_key 43 = .ok (.invokevirtual 86, 3) := by decide +kernel
theorem dX1_key_46 : decode cX1_key 46 = .ok (.iastore, 1) := by decide +kernel
theorem dX1_key_47 : decode cX1_key 47 = .ok (.return_, 1) := by decide +kernel
theorem dX1_sign_0 : decode cX1_sign 0 = .ok (.aload_n 0, 1) := by decide +kernel
theorem dX1_sign_1 : decode cX1_sign 1 = .ok (.invokevirtual 62, 3) := by decide +kernel
theorem dX1_sign_4 : decode cX1_sign 4 = .ok (.astore_n 3, 1) := by decide +kernel
theorem dX1_sign_5 : decode cX1_sign 5 = .ok (.aload_n 0, 1) := by decide +kernel
theorem dX1_sign_6 : decode cX1_sign 6 = .ok (.getfield 26, 3) := by decide +kernel
theorem dX1_sign_9 : decode cX1_sign 9 = .ok (.ifCond .ne 13, 3) := by decide +kernel
theorem dX1_sign_12 : decode cX1_sign 12 = .ok (.new 114, 3) := by decide +kernel
theorem dX1_sign_15 : decode cX1_sign 15 = .ok (.dup, 1) := by decide +kernel
theorem dX1_sign_16 : decode cX1_sign 16 = .ok (.ldc 116, 2) := by decide +kernel
theorem dX1_sign_18 : decode cX1_sign 18 = .ok (.invokespecial 118, 3) := by decide +kernel
theorem dX1_sign_21 : decode cX1_sign 21 = .ok (.athrow, 1) := by decide +kernel
theorem dX1_sign_22 : decode cX1_sign 22 = .ok (.aload_n 3, 1) := by decide +kernel
theorem dX1_sign_23 : decode cX1_sign 23 = .ok (.lload_n 1, 1) := by decide +kernel
theorem dX1_sign_24 : decode cX1_sign 24 = .ok (.invokevirtual 119, 3) := by decide +kernel
theorem dX1_sign_27 : decode cX1_sign 27 = .ok (.istore 4, 2) := by decide +kernel
theorem dX1_sign_29 : decode cX1_sign 29 = .ok (.aload_n 3, 1) := by decide +kernel
theorem dX1_sign_30 : decode cX1_sign 30 = .ok (.invokevirtual 123, 3) := by decide +kernel
theorem dX1_sign_33 : decode cX1_sign 33 = .ok (.istore 5, 2) := by decide +kernel
theorem dX1_sign_35 : decode cX1_sign 35 = .ok (.iconst 0, 1) := by decide +kernel
theorem dX1_sign_36 : decode cX1_sign 36 = .ok (.iconst 1, 1) := by decide +kernel
theorem dX1_sign_37 : decode cX1_sign 37 = .ok (.aload_n 0, 1) := by decide +kernel
theorem dX1_sign_38 : decode cX1_sign 38 = .ok (.getfield 26, 3) := by decide +kernel
theorem dX1_sign_41 : decode cX1_sign 41 = .ok (.iadd, 1) := by decide +kernel
theorem dX1_sign_42 : decode cX1_sign 42 = .ok (.invokestatic 127, 3) := by decide +kernel
theorem dX1_sign_45 : decode cX1_sign 45 = .ok (.istore 6, 2) := by decide +kernel
theorem dX1_sign_47 : decode cX1_sign 47 = .ok (.iload 6, 2) := by decide +kernel
theorem dX1_sign_49 : decode cX1_sign 49 = .ok (.iconst 1, 1) := by decide +kernel
theorem dX1_sign_50 : decode cX1_sign 50 = .ok (.invokestatic 127, 3) := by decide +kernel
theorem dX1_sign_53 : decode cX1_sign 53 = .ok (.istore 7, 2) := by decide +kernel
theorem dX1_sign_55 : decode cX1_sign 55 = .ok (.iload 6, 2) := by decide +kernel
theorem dX1_sign_57 : decode cX1_sign 57 = .ok (.iload 7, 2) := by decide +kernel
theorem dX1_sign_59 : decode cX1_sign 59 = .ok (.iload 4, 2) := by decide +kernel
theorem dX1_sign_61 : decode cX1_sign 61 = .ok (.ixor, 1) := by decide +kernel
theorem dX1_sign_62 : decode cX1_sign 62 = .ok (.invokestatic 127, 3) := by decide +kernel
theorem dX1_sign_65 : decode cX1_sign 65 = .ok (.istore 6, 2) := by decide +kernel
theorem dX1_sign_67 : decode cX1_sign 67 = .ok (.iload 6, 2) := by decide +kernel
theorem dX1_sign_69 : decode cX1_sign 69 = .ok (.iload 7, 2) := by decide +kernel
theorem dX1_sign_71 : decode cX1_sign 71 = .ok (.invokestatic 127, 3) := by decide +kernel
theorem dX1_sign_74 : decode cX1_sign 74 = .ok (.istore 7, 2) := by decide +kernel
theorem dX1_sign_76 : decode cX1_sign 76 = .ok (.iconst 1, 1) := by decide +kernel
theorem dX1_sign_77 : decode cX1_sign 77 = .ok (.istore 8, 2) := by decide +kernel
theorem dX1_sign_79 : decode cX1_sign 79 = .ok (.iload 8, 2) := by decide +kernel
theorem dX1_sign_81 : decode cX1_sign 81 = .ok (.bipush 24, 2) := by decide +kernel
theorem dX1_sign_83 : decode cX1_sign 83 = .ok (.if_icmp .gt 71, 3) := by decide +kernel
theorem dX1_sign_86 : decode cX1_sign 86 = .ok (.iload 6, 2) := by decide +kernel
theorem dX1_sign_88 : decode cX1_sign 88 = .ok (.iload 7, 2) := by decide +kernel
theorem dX1_sign_90 : decode cX1_sign 90 = .ok (.invokestatic 127, 3) := by decide +kernel
theorem dX1_sign_93 : decode cX1_sign 93 = .ok (.istore 7, 2) := by decide +kernel
theorem dX1_sign_95 : decode cX1_sign 95 = .ok (.aload_n 3, 1) := by decide +kernel
theorem dX1_sign_96 : decode cX1_sign 96 = .ok (.iload 7, 2) := by decide +kernel
theorem dX1_sign_98 : decode cX1_sign 98 = .ok (.iload 5, 2) := by decide +kernel
theorem dX1_sign_100 : decode cX1_sign 100 = .ok (.iand, 1) := by decide +kernel
theorem dX1_sign_101 : decode cX1_sign 101 = .ok (.iload 4, 2) := by decide +kernel
theorem dX1_sign_103 : decode cX1_sign 103 = .ok (.aload_n 0, 1) := by decide +kernel
theorem dX1_sign_104 : decode cX1_sign 104 = .ok (.getfield 26, 3) := by decide +kernel
theorem dX1_sign_107 : decode cX1_sign 107 = .ok (.invokevirtual 130, 3) := by decide +kernel
theorem dX1_sign_110 : decode cX1_sign 110 = .ok (.lstore 9, 2) := by decide +kernel
theorem dX1_sign_112 : decode cX1_sign 112 = .ok (.lload 9, 2) := by decide +kernel
theorem dX1_sign_114 : decode cX1_sign 114 = .ok (.lconst 0, 1) := by decide +kernel
theorem dX1_sign_115 : decode cX1_sign 115 = .ok (.lcmp, 1) := by decide +kernel
theorem dX1_sign_116 : decode cX1_sign 116 = .ok (.ifCond .eq 12, 3) := by decide +kernel
theorem dX1_sign_119 : decode cX1_sign 119 = .ok (.aload_n 0, 1) := by decide +kernel
theorem dX1_sign_120 : decode cX1_sign 120 = .ok (.iload 8, 2) := by decide +kernel
theorem dX1_sign_122 : decode cX1_sign 122 = .ok (.putfield 30, 3) := by decide +kernel
theorem dX1_sign_125 : decode cX1_sign 125 = .ok (.lload 9, 2) := by decide +kernel
theorem dX1_sign_127 : decode cX1_sign 127 = .ok (.lreturn, 1) := by decide +kernel
theorem dX1_sign_128 : decode cX1_sign 128 = .ok (.iload 6, 2) := by decide +kernel
theorem dX1_sign_130 : decode cX1_sign 130 = .ok (.iload 7, 2) := by decide +kernel
theorem dX1_sign_132 : decode cX1_sign 132 = .ok (.iconst 1, 1) := by decide +kernel
theorem dX1_sign_133 : decode cX1_sign 133 = .ok (.iadd, 1) := by decide +kernel
theorem dX1_sign_134 : decode cX1_sign 134 = .ok (.invokestatic 127, 3) := by decide +kernel
theorem dX1_sign_137 : decode cX1_sign 137 = .ok (.istore 6, 2) := by decide +kernel
theorem dX1_sign_139 : decode cX1_sign 139 = .ok (.iload 6, 2) := by decide +kernel
theorem dX1_sign_141 : decode cX1_sign 141 = .ok (.iload 7, 2) := by decide +kernel
theorem dX1_sign_143 : decode cX1_sign 143 = .ok (.invokestatic 127, 3) := by decide +kernel
theorem dX1_sign_146 : decode cX1_sign 146 = .ok (.istore 7, 2) := by decide +kernel
theorem dX1_sign_148 : decode cX1_sign 148 = .ok (.iinc 8 1, 3) := by decide +kernel
theorem dX1_sign_151 : decode cX1_sign 151 = .ok (.goto (-72), 3) := by decide +kernel
theorem dX1_sign_154 : decode cX1_sign 154 = .ok (.new 134, 3) := by decide +kernel
theorem dX1_sign_157 : decode cX1_sign 157 = .ok (.dup, 1) := by decide +kernel
theorem dX1_sign_158 : decode cX1_sign 158 = .ok (.ldc 136, 2) := by decide +kernel
theorem dX1_sign_160 : decode cX1_sign 160 = .ok (.invokespecial 138, 3) := by decide +kernel
theorem dX1_sign_163 : decode cX1_sign 163 = .ok (.athrow, 1) := by decide +kernel
theorem dX1_draws_0 : decode cX1_draws 0 = .ok (.aload_n 0, 1) := by decide +kernel
theorem dX1_draws_1 : decode cX1_draws 1 = .ok (.getfield 30, 3) := by decide +kernel
theorem dX1_draws_4 : decode cX1_draws 4 = .ok (.ireturn, 1) := by decide +kernel
theorem dX1_verify_0 : decode cX1_verify 0 = .ok (.aload_n 0, 1) := by decide +kernel
theorem dX1_verify_1 : decode cX1_verify 1 = .ok (.invokevirtual 62, 3) := by decide +kernel
theorem dX1_verify_4 : decode cX1_verify 4 = .ok (.astore 6, 2) := by decide +kernel
theorem dX1_verify_6 : decode cX1_verify 6 = .ok (.iload_n 1, 1) := by decide +kernel
theorem dX1_verify_7 : decode cX1_verify 7 = .ok (.invokestatic 66, 3) := by decide +kernel
theorem dX1_verify_10 : decode cX1_verify 10 = .ok (.aload 6, 2) := by decide +kernel
theorem dX1_verify_12 : decode cX1_verify 12 = .ok (.aload_n 0, 1) := by decide +kernel
theorem dX1_verify_13 : decode cX1_verify 13 = .ok (.getfield 9, 3) := by decide +kernel
theorem dX1_verify_16 : decode cX1_verify 16 = .ok (.iload_n 1, 1) := by decide +kernel
theorem dX1_verify_17 : decode cX1_verify 17 = .ok (.iaload, 1) := by decide +kernel
theorem dX1_verify_18 : decode cX1_verify 18 = .ok (.lload_n 2, 1) := by decide +kernel
theorem dX1_verify_19 : decode cX1_verify 19 = .ok (.iload 4, 2) := by decide +kernel
theorem dX1_verify_21 : decode cX1_verify 21 = .ok (.iload 5, 2) := by decide +kernel
theorem dX1_verify_23 : decode cX1_verify 23 = .ok (.invokevirtual 139, 3) := by decide +kernel
theorem dX1_verify_26 : decode cX1_verify 26 = .ok (.ireturn, 1) := by decide +kernel
theorem dX1_accepts_0 : decode cX1_accepts 0 = .ok (.aload_n 0, 1) := by decide +kernel
theorem dX1_accepts_1 : decode cX1_accepts 1 = .ok (.invokevirtual 62, 3) := by decide +kernel
theorem dX1_accepts_4 : decode cX1_accepts 4 = .ok (.astore 8, 2) := by decide +kernel
theorem dX1_accepts_6 : decode cX1_accepts 6 = .ok (.aload 8, 2) := by decide +kernel
theorem dX1_accepts_8 : decode cX1_accepts 8 = .ok (.iload_n 1, 1) := by decide +kernel
theorem dX1_accepts_9 : decode cX1_accepts 9 = .ok (.lload_n 2, 1) := by decide +kernel
theorem dX1_accepts_10 : decode cX1_accepts 10 = .ok (.invokevirtual 103, 3) := by decide +kernel
theorem dX1_accepts_13 : decode cX1_accepts 13 = .ok (.istore 9, 2) := by decide +kernel
theorem dX1_accepts_15 : decode cX1_accepts 15 = .ok (.iload 9, 2) := by decide +kernel
theorem dX1_accepts_17 : decode cX1_accepts 17 = .ok (.bipush (-2), 2) := by decide +kernel
theorem dX1_accepts_19 : decode cX1_accepts 19 = .ok (.if_icmp .eq 23, 3) := by decide +kernel
theorem dX1_accepts_22 : decode cX1_accepts 22 = .ok (.aload 8, 2) := by decide +kernel
theorem dX1_accepts_24 : decode cX1_accepts 24 = .ok (.iload 9, 2) := by decide +kernel
theorem dX1_accepts_26 : decode cX1_accepts 26 = .ok (.lload 4, 2) := by decide +kernel
theorem dX1_accepts_28 : decode cX1_accepts 28 = .ok (.iload 6, 2) := by decide +kernel
theorem dX1_accepts_30 : decode cX1_accepts 30 = .ok (.iload 7, 2) := by decide +kernel
theorem dX1_accepts_32 : decode cX1_accepts 32 = .ok (.invokevirtual 139, 3) := by decide +kernel
theorem dX1_accepts_35 : decode cX1_accepts 35 = .ok (.ifCond .eq 7, 3) := by decide +kernel
theorem dX1_accepts_38 : decode cX1_accepts 38 = .ok (.iconst 1, 1) := by decide +kernel
theorem dX1_accepts_39 : decode cX1_accepts 39 = .ok (.goto 4, 3) := by decide +kernel
theorem dX1_accepts_42 : decode cX1_accepts 42 = .ok (.iconst 0, 1) := by decide +kernel
theorem dX1_accepts_43 : decode cX1_accepts 43 = .ok (.ireturn, 1) := by decide +kernel
theorem dX1_takenCurve_0 : decode cX1_takenCurve 0 = .ok (.aload_n 0, 1) := by decide +kernel
theorem dX1_takenCurve_1 : decode cX1_takenCurve 1 = .ok (.getfield 22, 3) := by decide +kernel
theorem dX1_takenCurve_4 : decode cX1_takenCurve 4 = .ok (.ifnonnull 13, 3) := by decide +kernel
theorem dX1_takenCurve_7 : decode cX1_takenCurve 7 = .ok (.new 114, 3) := by decide +kernel
theorem dX1_takenCurve_10 : decode cX1_takenCurve 10 = .ok (.dup, 1) := by decide +kernel
theorem dX1_takenCurve_11 : decode cX1_takenCurve 11 = .ok (.ldc 143, 2) := by decide +kernel
theorem dX1_takenCurve_13 : decode cX1_takenCurve 13 = .ok (.invokespecial 118, 3) := by decide +kernel
theorem dX1_takenCurve_16 : decode cX1_takenCurve 16 = .ok (.athrow, 1) := by decide +kernel
theorem dX1_takenCurve_17 : decode cX1_takenCurve 17 = .ok (.aload_n 0, 1) := by decide +kernel
theorem dX1_takenCurve_18 : decode cX1_takenCurve 18 = .ok (.getfield 22, 3) := by decide +kernel
theorem dX1_takenCurve_21 : decode cX1_takenCurve 21 = .ok (.areturn, 1) := by decide +kernel
theorem dX1_checkRegister_0 : decode cX1_checkRegister 0 = .ok (.iload_n 0, 1) := by decide +kernel
theorem dX1_checkRegister_1 : decode cX1_checkRegister 1 = .ok (.ifCond .lt 8, 3) := by decide +kernel
theorem dX1_checkRegister_4 : decode cX1_checkRegister 4 = .ok (.iload_n 0, 1) := by decide +kernel
theorem dX1_checkRegister_5 : decode cX1_checkRegister 5 = .ok (.iconst 4, 1) := by decide +kernel
theorem dX1_checkRegister_6 : decode cX1_checkRegister 6 = .ok (.if_icmp .lt 13, 3) := by decide +kernel
theorem dX1_checkRegister_9 : decode cX1_checkRegister 9 = .ok (.new 145, 3) := by decide +kernel
theorem dX1_checkRegister_12 : decode cX1_checkRegister 12 = .ok (.dup, 1) := by decide +kernel
theorem dX1_checkRegister_13 : decode cX1_checkRegister 13 = .ok (.ldc 147, 2) := by decide +kernel
theorem dX1_checkRegister_15 : decode cX1_checkRegister 15 = .ok (.invokespecial 149, 3) := by decide +kernel
theorem dX1_checkRegister_18 : decode cX1_checkRegister 18 = .ok (.athrow, 1) := by decide +kernel
theorem dX1_checkRegister_19 : decode cX1_checkRegister 19 = .ok (.return_, 1) := by decide +kernel
theorem dX1_isCurve_0 : decode cX1_isCurve 0 = .ok (.iload_n 0, 1) := by decide +kernel
theorem dX1_isCurve_1 : decode cX1_isCurve 1 = .ok (.iconst 5, 1) := by decide +kernel
theorem dX1_isCurve_2 : decode cX1_isCurve 2 = .ok (.if_icmp .lt 17, 3) := by decide +kernel
theorem dX1_isCurve_5 : decode cX1_isCurve 5 = .ok (.iload_n 0, 1) := by decide +kernel
theorem dX1_isCurve_6 : decode cX1_isCurve 6 = .ok (.sipush 1021, 3) := by decide +kernel
theorem dX1_isCurve_9 : decode cX1_isCurve 9 = .ok (.if_icmp .gt 10, 3) := by decide +kernel
theorem dX1_isCurve_12 : decode cX1_isCurve 12 = .ok (.iload_n 0, 1) := by decide +kernel
theorem dX1_isCurve_13 : decode cX1_isCurve 13 = .ok (.invokestatic 48, 3) := by decide +kernel
theorem dX1_isCurve_16 : decode cX1_isCurve 16 = .ok (.ifCond .ne 5, 3) := by decide +kernel
theorem dX1_isCurve_19 : decode cX1_isCurve 19 = .ok (.iconst 0, 1) := by decide +kernel
theorem dX1_isCurve_20 : decode cX1_isCurve 20 = .ok (.ireturn, 1) := by decide +kernel
theorem dX1_isCurve_21 : decode cX1_isCurve 21 = .ok (.iload_n 1, 1) := by decide +kernel
theorem dX1_isCurve_22 : decode cX1_isCurve 22 = .ok (.ifCond .lt 17, 3) := by decide +kernel
theorem dX1_isCurve_25 : decode cX1_isCurve 25 = .ok (.iload_n 1, 1) := by decide +kernel
theorem dX1_isCurve_26 : decode cX1_isCurve 26 = .ok (.iload_n 0, 1) := by decide +kernel
theorem dX1_isCurve_27 : decode cX1_isCurve 27 = .ok (.if_icmp .ge 12, 3) := by decide +kernel
theorem dX1_isCurve_30 : decode cX1_isCurve 30 = .ok (.iload_n 2, 1) := by decide +kernel
theorem dX1_isCurve_31 : decode cX1_isCurve 31 = .ok (.ifCond .lt 8, 3) := by decide +kernel
theorem dX1_isCurve_34 : decode cX1_isCurve 34 = .ok (.iload_n 2, 1) := by decide +kernel
theorem dX1_isCurve_35 : decode cX1_isCurve 35 = .ok (.iload_n 0, 1) := by decide +kernel
theorem dX1_isCurve_36 : decode cX1_isCurve 36 = .ok (.if_icmp .lt 5, 3) := by decide +kernel
theorem dX1_isCurve_39 : decode cX1_isCurve 39 = .ok (.iconst 0, 1) := by decide +kernel
theorem dX1_isCurve_40 : decode cX1_isCurve 40 = .ok (.ireturn, 1) := by decide +kernel
theorem dX1_isCurve_41 : decode cX1_isCurve 41 = .ok (.iconst 4, 1) := by decide +kernel
theorem dX1_isCurve_42 : decode cX1_isCurve 42 = .ok (.iload_n 1, 1) := by decide +kernel
theorem dX1_isCurve_43 : decode cX1_isCurve 43 = .ok (.iload_n 1, 1) := by decide +kernel
theorem dX1_isCurve_44 : decode cX1_isCurve 44 = .ok (.imul, 1) := by decide +kernel
theorem dX1_isCurve_45 : decode cX1_isCurve 45 = .ok (.iload_n 0, 1) := by decide +kernel
theorem dX1_isCurve_46 : decode cX1_isCurve 46 = .ok (.irem, 1) := by decide +kernel
theorem dX1_isCurve_47 : decode cX1_isCurve 47 = .ok (.iload_n 1, 1) := by decide +kernel
theorem dX1_isCurve_48 : decode cX1_isCurve 48 = .ok (.imul, 1) := by decide +kernel
theorem dX1_isCurve_49 : decode cX1_isCurve 49 = .ok (.iload_n 0, 1) := by decide +kernel
theorem dX1_isCurve_50 : decode cX1_isCurve 50 = .ok (.irem, 1) := by decide +kernel
theorem dX1_isCurve_51 : decode cX1_isCurve 51 = .ok (.imul, 1) := by decide +kernel
theorem dX1_isCurve_52 : decode cX1_isCurve 52 = .ok (.bipush 27, 2) := by decide +kernel
theorem dX1_isCurve_54 : decode cX1_isCurve 54 = .ok (.iload_n 2, 1) := by decide +kernel
theorem dX1_isCurve_55 : decode cX1_isCurve 55 = .ok (.iload_n 2, 1) := by decide +kernel
theorem dX1_isCurve_56 : decode cX1_isCurve 56 = .ok (.imul, 1) := by decide +kernel
theorem dX1_isCurve_57 : decode cX1_isCurve 57 = .ok (.iload_n 0, 1) := by decide +kernel
theorem dX1_isCurve_58 : decode cX1_isCurve 58 = .ok (.irem, 1) := by decide +kernel
theorem dX1_isCurve_59 : decode cX1_isCurve 59 = .ok (.imul, 1) := by decide +kernel
theorem dX1_isCurve_60 : decode cX1_isCurve 60 = .ok (.iadd, 1) := by decide +kernel
theorem dX1_isCurve_61 : decode cX1_isCurve 61 = .ok (.iload_n 0, 1) := by decide +kernel
theorem dX1_isCurve_62 : decode cX1_isCurve 62 = .ok (.irem, 1) := by decide +kernel
theorem dX1_isCurve_63 : decode cX1_isCurve 63 = .ok (.ifCond .eq 7, 3) := by decide +kernel
theorem dX1_isCurve_66 : decode cX1_isCurve 66 = .ok (.iconst 1, 1) := by decide +kernel
theorem dX1_isCurve_67 : decode cX1_isCurve 67 = .ok (.goto 4, 3) := by decide +kernel
theorem dX1_isCurve_70 : decode cX1_isCurve 70 = .ok (.iconst 0, 1) := by decide +kernel
theorem dX1_isCurve_71 : decode cX1_isCurve 71 = .ok (.ireturn, 1) := by decide +kernel
theorem dX1_isPrime_0 : decode cX1_isPrime 0 = .ok (.iconst 2, 1) := by decide +kernel
theorem dX1_isPrime_1 : decode cX1_isPrime 1 = .ok (.istore_n 1, 1) := by decide +kernel
theorem dX1_isPrime_2 : decode cX1_isPrime 2 = .ok (.iload_n 1, 1) := by decide +kernel
theorem dX1_isPrime_3 : decode cX1_isPrime 3 = .ok (.iload_n 1, 1) := by decide +kernel
theorem dX1_isPrime_4 : decode cX1_isPrime 4 = .ok (.imul, 1) := by decide +kernel
theorem dX1_isPrime_5 : decode cX1_isPrime 5 = .ok (.iload_n 0, 1) := by decide +kernel
theorem dX1_isPrime_6 : decode cX1_isPrime 6 = .ok (.if_icmp .gt 17, 3) := by decide +kernel
theorem dX1_isPrime_9 : decode cX1_isPrime 9 = .ok (.iload_n 0, 1) := by decide +kernel
theorem dX1_isPrime_10 : decode cX1_isPrime 10 = .ok (.iload_n 1, 1) := by decide +kernel
theorem dX1_isPrime_11 : decode cX1_isPrime 11 = .ok (.irem, 1) := by decide +kernel
theorem dX1_isPrime_12 : decode cX1_isPrime 12 = .ok (.ifCond .ne 5, 3) := by decide +kernel
theorem dX1_isPrime_15 : decode cX1_isPrime 15 = .ok (.iconst 0, 1) := by decide +kernel
theorem dX1_isPrime_16 : decode cX1_isPrime 16 = .ok (.ireturn, 1) := by decide +kernel
theorem dX1_isPrime_17 : decode cX1_isPrime 17 = .ok (.iinc 1 1, 3) := by decide +kernel
theorem dX1_isPrime_20 : decode cX1_isPrime 20 = .ok (.goto (-18), 3) := by decide +kernel
theorem dX1_isPrime_23 : decode cX1_isPrime 23 = .ok (.iload_n 0, 1) := by decide +kernel
theorem dX1_isPrime_24 : decode cX1_isPrime 24 = .ok (.iconst 2, 1) := by decide +kernel
theorem dX1_isPrime_25 : decode cX1_isPrime 25 = .ok (.if_icmp .lt 7, 3) := by decide +kernel
theorem dX1_isPrime_28 : decode cX1_isPrime 28 = .ok (.iconst 1, 1) := by decide +kernel
theorem dX1_isPrime_29 : decode cX1_isPrime 29 = .ok (.goto 4, 3) := by decide +kernel
theorem dX1_isPrime_32 : decode cX1_isPrime 32 = .ok (.iconst 0, 1) := by decide +kernel
theorem dX1_isPrime_33 : decode cX1_isPrime 33 = .ok (.ireturn, 1) := by decide +kernel
theorem dX1_countPoints_0 : decode cX1_countPoints 0 = .ok (.aload_n 0, 1) := by decide +kernel
theorem dX1_countPoints_1 : decode cX1_countPoints 1 = .ok (.getfield 13, 3) := by decide +kernel
theorem dX1_countPoints_4 : decode cX1_countPoints 4 = .ok (.iconst 0, 1) := by decide +kernel
theorem dX1_countPoints_5 : decode cX1_countPoints 5 = .ok (.invokestatic 16, 3) := by decide +kernel
theorem dX1_countPoints_8 : decode cX1_countPoints 8 = .ok (.iconst 0, 1) := by decide +kernel
theorem dX1_countPoints_9 : decode cX1_countPoints 9 = .ok (.istore 4, 2) := by decide +kernel
theorem dX1_countPoints_11 : decode cX1_countPoints 11 = .ok (.iload 4, 2) := by decide +kernel
theorem dX1_countPoints_13 : decode cX1_countPoints 13 = .ok (.iload_n 1, 1) := by decide +kernel
theorem dX1_countPoints_14 : decode cX1_countPoints 14 = .ok (.if_icmp .ge 25, 3) := by decide +kernel
theorem dX1_countPoints_17 : decode cX1_countPoints 17 = .ok (.aload_n 0, 1) := by decide +kernel
theorem dX1_countPoints_18 : decode cX1_countPoints 18 = .ok (.getfield 13, 3) := by decide +kernel
theorem dX1_countPoints_21 : decode cX1_countPoints 21 = .ok (.iload 4, 2) := by decide +kernel
theorem dX1_countPoints_23 : decode cX1_countPoints 23 = .ok (.iload 4, 2) := by decide +kernel
theorem dX1_countPoints_25 : decode cX1_countPoints 25 = .ok (.imul, 1) := by decide +kernel
theorem dX1_countPoints_26 : decode cX1_countPoints 26 = .ok (.iload_n 1, 1) := by decide +kernel
theorem dX1_countPoints_27 : decode cX1_countPoints 27 = .ok (.irem, 1) := by decide +kernel
theorem dX1_countPoints_28 : decode cX1_countPoints 28 = .ok (.dup2, 1) := by decide +kernel
theorem dX1_countPoints_29 : decode cX1_countPoints 29 = .ok (.iaload, 1) := by decide +kernel
theorem dX1_countPoints_30 : decode cX1_countPoints 30 = .ok (.iconst 1, 1) := by decide +kernel
theorem dX1_countPoints_31 : decode cX1_countPoints 31 = .ok (.iadd, 1) := by decide +kernel
theorem dX1_countPoints_32 : decode cX1_countPoints 32 = .ok (.iastore, 1) := by decide +kernel
theorem dX1_countPoints_33 : decode cX1_countPoints 33 = .ok (.iinc 4 1, 3) := by decide +kernel
theorem dX1_countPoints_36 : decode cX1_countPoints 36 = .ok (.goto (-25), 3) := by decide +kernel
theorem dX1_countPoints_39 : decode cX1_countPoints 39 = .ok (.iconst 1, 1) := by decide +kernel
theorem dX1_countPoints_40 : decode cX1_countPoints 40 = .ok (.istore 4, 2) := by decide +kernel
theorem dX1_countPoints_42 : decode cX1_countPoints 42 = .ok (.iconst 0, 1) := by decide +kernel
theorem dX1_countPoints_43 : decode cX1_countPoints 43 = .ok (.istore 5, 2) := by decide +kernel
theorem dX1_countPoints_45 : decode cX1_countPoints 45 = .ok (.iload 5, 2) := by decide +kernel
theorem dX1_countPoints_47 : decode cX1_countPoints 47 = .ok (.iload_n 1, 1) := by decide +kernel
theorem dX1_countPoints_48 : decode cX1_countPoints 48 = .ok (.if_icmp .ge 27, 3) := by decide +kernel
theorem dX1_countPoints_51 : decode cX1_countPoints 51 = .ok (.iload 4, 2) := by decide +kernel
theorem dX1_countPoints_53 : decode cX1_countPoints 53 = .ok (.aload_n 0, 1) := by decide +kernel
theorem dX1_countPoints_54 : decode cX1_countPoints 54 = .ok (.getfield 13, 3) := by decide +kernel
theorem dX1_countPoints_57 : decode cX1_countPoints 57 = .ok (.iload_n 1, 1) := by decide +kernel
theorem dX1_countPoints_58 : decode cX1_countPoints 58 = .ok (.iload_n 2, 1) := by decide +kernel
theorem dX1_countPoints_59 : decode cX1_countPoints 59 = .ok (.iload_n 3, 1) := by decide +kernel
theorem dX1_countPoints_60 : decode cX1_countPoints 60 = .ok (.iload 5, 2) := by decide +kernel
theorem dX1_countPoints_62 : decode cX1_countPoints 62 = .ok (.invokestatic 150, 3) := by decide +kernel
theorem dX1_countPoints_65 : decode cX1_countPoints 65 = .ok (.iaload, 1) := by decide +kernel
theorem dX1_countPoints_66 : decode cX1_countPoints 66 = .ok (.iadd, 1) := by decide +kernel
theorem dX1_countPoints_67 : decode cX1_countPoints 67 = .ok (.istore 4, 2) := by decide +kernel
theorem dX1_countPoints_69 : decode cX1_countPoints 69 = .ok (.iinc 5 1, 3) := by decide +kernel
theorem dX1_countPoints_72 : decode cX1_countPoints 72 = .ok (.goto (-27), 3) := by decide +kernel
theorem dX1_countPoints_75 : decode cX1_countPoints 75 = .ok (.iload 4, 2) := by decide +kernel
theorem dX1_countPoints_77 : decode cX1_countPoints 77 = .ok (.ireturn, 1) := by decide +kernel
theorem dX1_cubic_0 : decode cX1_cubic 0 = .ok (.iload_n 3, 1) := by decide +kernel
theorem dX1_cubic_1 : decode cX1_cubic 1 = .ok (.iload_n 3, 1) := by decide +kernel
theorem dX1_cubic_2 : decode cX1_cubic 2 = .ok (.imul, 1) := by decide +kernel
theorem dX1_cubic_3 : decode cX1_cubic 3 = .ok (.iload_n 1, 1) := by decide +kernel
theorem dX1_cubic_4 : decode cX1_cubic 4 = .ok (.iadd, 1) := by decide +kernel
theorem dX1_cubic_5 : decode cX1_cubic 5 = .ok (.iload_n 0, 1) := by decide +kernel
theorem dX1_cubic_6 : decode cX1_cubic 6 = .ok (.irem, 1) := by decide +kernel
theorem dX1_cubic_7 : decode cX1_cubic 7 = .ok (.iload_n 3, 1) := by decide +kernel
theorem dX1_cubic_8 : decode cX1_cubic 8 = .ok (.imul, 1) := by decide +kernel
theorem dX1_cubic_9 : decode cX1_cubic 9 = .ok (.iload_n 2, 1) := by decide +kernel
theorem dX1_cubic_10 : decode cX1_cubic 10 = .ok (.iadd, 1) := by decide +kernel
theorem dX1_cubic_11 : decode cX1_cubic 11 = .ok (.iload_n 0, 1) := by decide +kernel
theorem dX1_cubic_12 : decode cX1_cubic 12 = .ok (.irem, 1) := by decide +kernel
theorem dX1_cubic_13 : decode cX1_cubic 13 = .ok (.ireturn, 1) := by decide +kernel
theorem dX1_pointAt_0 : decode cX1_pointAt 0 = .ok (.iload_n 0, 1) := by decide +kernel
theorem dX1_pointAt_1 : decode cX1_pointAt 1 = .ok (.ldc 154, 2) := by decide +kernel
theorem dX1_pointAt_3 : decode cX1_pointAt 3 = .ok (.imul, 1) := by decide +kernel
theorem dX1_pointAt_4 : decode cX1_pointAt 4 = .ok (.iload_n 1, 1) := by decide +kernel
theorem dX1_pointAt_5 : decode cX1_pointAt 5 = .ok (.iadd, 1) := by decide +kernel
theorem dX1_pointAt_6 : decode cX1_pointAt 6 = .ok (.ireturn, 1) := by decide +kernel
theorem dX1_xOf_0 : decode cX1_xOf 0 = .ok (.iload_n 0, 1) := by decide +kernel
theorem dX1_xOf_1 : decode cX1_xOf 1 = .ok (.bipush 16, 2) := by decide +kernel
theorem dX1_xOf_3 : decode cX1_xOf 3 = .ok (.ishr, 1) := by decide +kernel
theorem dX1_xOf_4 : decode cX1_xOf 4 = .ok (.ireturn, 1) := by decide +kernel
theorem dX1_yOf_0 : decode cX1_yOf 0 = .ok (.iload_n 0, 1) := by decide +kernel
theorem dX1_yOf_1 : decode cX1_yOf 1 = .ok (.ldc 155, 2) := by decide +kernel
theorem dX1_yOf_3 : decode cX1_yOf 3 = .ok (.iand, 1) := by decide +kernel
theorem dX1_yOf_4 : decode cX1_yOf 4 = .ok (.ireturn, 1) := by decide +kernel
theorem dX1_shortNumber_0 : decode cX1_shortNumber 0 = .ok (.iconst 2, 1) := by decide +kernel
theorem dX1_shortNumber_1 : decode cX1_shortNumber 1 = .ok (.iload_n 0, 1) := by decide +kernel
theorem dX1_shortNumber_2 : decode cX1_shortNumber 2 = .ok (.invokestatic 93, 3) := by decide +kernel
theorem dX1_shortNumber_5 : decode cX1_shortNumber 5 = .ok (.iconst 2, 1) := by decide +kernel
theorem dX1_shortNumber_6 : decode cX1_shortNumber 6 = .ok (.irem, 1) := by decide +kernel
theorem dX1_shortNumber_7 : decode cX1_shortNumber 7 = .ok (.iadd, 1) := by decide +kernel
theorem dX1_shortNumber_8 : decode cX1_shortNumber 8 = .ok (.i2l, 1) := by decide +kernel
theorem dX1_shortNumber_9 : decode cX1_shortNumber 9 = .ok (.ldc2_w 156, 3) := by decide +kernel
theorem dX1_shortNumber_12 : decode cX1_shortNumber 12 = .ok (.lmul, 1) := by decide +kernel
theorem dX1_shortNumber_13 : decode cX1_shortNumber 13 = .ok (.iload_n 0, 1) := by decide +kernel
theorem dX1_shortNumber_14 : decode cX1_shortNumber 14 = .ok (.invokestatic 89, 3) := by decide +kernel
theorem dX1_shortNumber_17 : decode cX1_shortNumber 17 = .ok (.i2l, 1) := by decide +kernel
theorem dX1_shortNumber_18 : decode cX1_shortNumber 18 = .ok (.ladd, 1) := by decide +kernel
theorem dX1_shortNumber_19 : decode cX1_shortNumber 19 = .ok (.lreturn, 1) := by decide +kernel
theorem dX1_plainNumber_0 : decode cX1_plainNumber 0 = .ok (.ldc2_w 158, 3) := by decide +kernel
theorem dX1_plainNumber_3 : decode cX1_plainNumber 3 = .ok (.iload_n 0, 1) := by decide +kernel
theorem dX1_plainNumber_4 : decode cX1_plainNumber 4 = .ok (.i2l, 1) := by decide +kernel
theorem dX1_plainNumber_5 : decode cX1_plainNumber 5 = .ok (.ladd, 1) := by decide +kernel
theorem dX1_plainNumber_6 : decode cX1_plainNumber 6 = .ok (.lreturn, 1) := by decide +kernel
theorem dX1_mix_0 : decode cX1_mix 0 = .ok (.iload_n 0, 1) := by decide +kernel
theorem dX1_mix_1 : decode cX1_mix 1 = .ok (.iload_n 1, 1) := by decide +kernel
theorem dX1_mix_2 : decode cX1_mix 2 = .ok (.ixor, 1) := by decide +kernel
theorem dX1_mix_3 : decode cX1_mix 3 = .ok (.ldc 160, 2) := by decide +kernel
theorem dX1_mix_5 : decode cX1_mix 5 = .ok (.imul, 1) := by decide +kernel
theorem dX1_mix_6 : decode cX1_mix 6 = .ok (.iload_n 0, 1) := by decide +kernel
theorem dX1_mix_7 : decode cX1_mix 7 = .ok (.iadd, 1) := by decide +kernel
theorem dX1_mix_8 : decode cX1_mix 8 = .ok (.istore_n 2, 1) := by decide +kernel
theorem dX1_mix_9 : decode cX1_mix 9 = .ok (.iload_n 2, 1) := by decide +kernel
theorem dX1_mix_10 : decode cX1_mix 10 = .ok (.iload_n 2, 1) := by decide +kernel
theorem dX1_mix_11 : decode cX1_mix 11 = .ok (.bipush 7, 2) := by decide +kernel
theorem dX1_mix_13 : decode cX1_mix 13 = .ok (.ishl, 1) := by decide +kernel
theorem dX1_mix_14 : decode cX1_mix 14 = .ok (.iload_n 2, 1) := by decide +kernel
theorem dX1_mix_15 : decode cX1_mix 15 = .ok (.bipush 25, 2) := by decide +kernel
theorem dX1_mix_17 : decode cX1_mix 17 = .ok (.iushr, 1) := by decide +kernel
theorem dX1_mix_18 : decode cX1_mix 18 = .ok (.ior, 1) := by decide +kernel
theorem dX1_mix_19 : decode cX1_mix 19 = .ok (.iadd, 1) := by decide +kernel
theorem dX1_mix_20 : decode cX1_mix 20 = .ok (.ireturn, 1) := by decide +kernel
theorem dX1_quotient_0 : decode cX1_quotient 0 = .ok (.iload_n 0, 1) := by decide +kernel
theorem dX1_quotient_1 : decode cX1_quotient 1 = .ok (.iload_n 2, 1) := by decide +kernel
theorem dX1_quotient_2 : decode cX1_quotient 2 = .ok (.invokestatic 161, 3) := by decide +kernel
theorem dX1_quotient_5 : decode cX1_quotient 5 = .ok (.iload_n 1, 1) := by decide +kernel
theorem dX1_quotient_6 : decode cX1_quotient 6 = .ok (.iload_n 2, 1) := by decide +kernel
theorem dX1_quotient_7 : decode cX1_quotient 7 = .ok (.invokestatic 161, 3) := by decide +kernel
theorem dX1_quotient_10 : decode cX1_quotient 10 = .ok (.iload_n 2, 1) := by decide +kernel
theorem dX1_quotient_11 : decode cX1_quotient 11 = .ok (.invokestatic 166, 3) := by decide +kernel
theorem dX1_quotient_14 : decode cX1_quotient 14 = .ok (.imul, 1) := by decide +kernel
theorem dX1_quotient_15 : decode cX1_quotient 15 = .ok (.iload_n 2, 1) := by decide +kernel
theorem dX1_quotient_16 : decode cX1_quotient 16 = .ok (.irem, 1) := by decide +kernel
theorem dX1_quotient_17 : decode cX1_quotient 17 = .ok (.ireturn, 1) := by decide +kernel
theorem dX1_inverse_0 : decode cX1_inverse 0 = .ok (.iconst 1, 1) := by decide +kernel
theorem dX1_inverse_1 : decode cX1_inverse 1 = .ok (.istore_n 2, 1) := by decide +kernel
theorem dX1_inverse_2 : decode cX1_inverse 2 = .ok (.iload_n 0, 1) := by decide +kernel
theorem dX1_inverse_3 : decode cX1_inverse 3 = .ok (.istore_n 3, 1) := by decide +kernel
theorem dX1_inverse_4 : decode cX1_inverse 4 = .ok (.iload_n 1, 1) := by decide +kernel
theorem dX1_inverse_5 : decode cX1_inverse 5 = .ok (.iconst 2, 1) := by decide +kernel
theorem dX1_inverse_6 : decode cX1_inverse 6 = .ok (.isub, 1) := by decide +kernel
theorem dX1_inverse_7 : decode cX1_inverse 7 = .ok (.istore 4, 2) := by decide +kernel
theorem dX1_inverse_9 : decode cX1_inverse 9 = .ok (.iload 4, 2) := by decide +kernel
theorem dX1_inverse_11 : decode cX1_inverse 11 = .ok (.ifCond .le 32, 3) := by decide +kernel
theorem dX1_inverse_14 : decode cX1_inverse 14 = .ok (.iload 4, 2) := by decide +kernel
theorem dX1_inverse_16 : decode cX1_inverse 16 = .ok (.iconst 1, 1) := by decide +kernel
theorem dX1_inverse_17 : decode cX1_inverse 17 = .ok (.iand, 1) := by decide +kernel
theorem dX1_inverse_18 : decode cX1_inverse 18 = .ok (.iconst 1, 1) := by decide +kernel
theorem dX1_inverse_19 : decode cX1_inverse 19 = .ok (.if_icmp .ne 9, 3) := by decide +kernel
theorem dX1_inverse_22 : decode cX1_inverse 22 = .ok (.iload_n 2, 1) := by decide +kernel
theorem dX1_inverse_23 : decode cX1_inverse 23 = .ok (.iload_n 3, 1) := by decide +kernel
theorem dX1_inverse_24 : decode cX1_inverse 24 = .ok (.imul, 1) := by decide +kernel
theorem dX1_inverse_25 : decode cX1_inverse 25 = .ok (.iload_n 1, 1) := by decide +kernel
theorem dX1_inverse_26 : decode cX1_inverse 26 = .ok (.irem, 1) := by decide +kernel
theorem dX1_inverse_27 : decode cX1_inverse 27 = .ok (.istore_n 2, 1) := by decide +kernel
theorem dX1_inverse_28 : decode cX1_inverse 28 = .ok (.iload_n 3, 1) := by decide +kernel
theorem dX1_inverse_29 : decode cX1_inverse 29 = .ok (.iload_n 3, 1) := by decide +kernel
theorem dX1_inverse_30 : decode cX1_inverse 30 = .ok (.imul, 1) := by decide +kernel
theorem dX1_inverse_31 : decode cX1_inverse 31 = .ok (.iload_n 1, 1) := by decide +kernel
theorem dX1_inverse_32 : decode cX1_inverse 32 = .ok (.irem, 1) := by decide +kernel
theorem dX1_inverse_33 : decode cX1_inverse 33 = .ok (.istore_n 3, 1) := by decide +kernel
theorem dX1_inverse_34 : decode cX1_inverse 34 = .ok (.iload 4, 2) := by decide +kernel
theorem dX1_inverse_36 : decode cX1_inverse 36 = .ok (.iconst 1, 1) := by decide +kernel
theorem dX1_inverse_37 : decode cX1_inverse 37 = .ok (.ishr, 1) := by decide +kernel
theorem dX1_inverse_38 : decode cX1_inverse 38 = .ok (.istore 4, 2) := by decide +kernel
theorem dX1_inverse_40 : decode cX1_inverse 40 = .ok (.goto (-31), 3) := by decide +kernel
theorem dX1_inverse_43 : decode cX1_inverse 43 = .ok (.iload_n 2, 1) := by decide +kernel
theorem dX1_inverse_44 : decode cX1_inverse 44 = .ok (.ireturn, 1) := by decide +kernel
theorem dX0_init_0 : decode cX0_init 0 = .ok (.aload_n 0, 1) := by decide +kernel
theorem dX0_init_1 : decode cX0_init 1 = .ok (.invokespecial 3, 3) := by decide +kernel
theorem dX0_init_4 : decode cX0_init 4 = .ok (.aload_n 0, 1) := by decide +kernel
theorem dX0_init_5 : decode cX0_init 5 = .ok (.iload_n 1, 1) := by decide +kernel
theorem dX0_init_6 : decode cX0_init 6 = .ok (.putfield 9, 3) := by decide +kernel
theorem dX0_init_9 : decode cX0_init 9 = .ok (.aload_n 0, 1) := by decide +kernel
theorem dX0_init_10 : decode cX0_init 10 = .ok (.iload_n 2, 1) := by decide +kernel
theorem dX0_init_11 : decode cX0_init 11 = .ok (.putfield 15, 3) := by decide +kernel
theorem dX0_init_14 : decode cX0_init 14 = .ok (.aload_n 0, 1) := by decide +kernel
theorem dX0_init_15 : decode cX0_init 15 = .ok (.iload_n 3, 1) := by decide +kernel
theorem dX0_init_16 : decode cX0_init 16 = .ok (.putfield 18, 3) := by decide +kernel
theorem dX0_init_19 : decode cX0_init 19 = .ok (.aload_n 0, 1) := by decide +kernel
theorem dX0_init_20 : decode cX0_init 20 = .ok (.iload 4, 2) := by decide +kernel
theorem dX0_init_22 : decode cX0_init 22 = .ok (.putfield 21, 3) := by decide +kernel
theorem dX0_init_25 : decode cX0_init 25 = .ok (.aload_n 0, 1) := by decide +kernel
theorem dX0_init_26 : decode cX0_init 26 = .ok (.iload_n 1, 1) := by decide +kernel
theorem dX0_init_27 : decode cX0_init 27 = .ok (.iload_n 2, 1) := by decide +kernel
theorem dX0_init_28 : decode cX0_init 28 = .ok (.iload_n 3, 1) := by decide +kernel
theorem dX0_init_29 : decode cX0_init 29 = .ok (.invokestatic 24, 3) := by decide +kernel
theorem dX0_init_32 : decode cX0_init 32 = .ok (.putfield 28, 3) := by decide +kernel
theorem dX0_init_35 : decode cX0_init 35 = .ok (.return_, 1) := by decide +kernel
theorem dX0_leastPoint_0 : decode cX0_leastPoint 0 = .ok (.iconst 0, 1) := by decide +kernel
theorem dX0_leastPoint_1 : decode cX0_leastPoint 1 = .ok (.istore_n 3, 1) := by decide +kernel
theorem dX0_leastPoint_2 : decode cX0_leastPoint 2 = .ok (.iload_n 3, 1) := by decide +kernel
theorem dX0_leastPoint_3 : decode cX0_leastPoint 3 = .ok (.iload_n 0, 1) := by decide +kernel
theorem dX0_leastPoint_4 : decode cX0_leastPoint 4 = .ok (.if_icmp .ge 35, 3) := by decide +kernel
theorem dX0_leastPoint_7 : decode cX0_leastPoint 7 = .ok (.iload_n 0, 1) := by decide +kernel
theorem dX0_leastPoint_8 : decode cX0_leastPoint 8 = .ok (.iload_n 1, 1) := by decide +kernel
theorem dX0_leastPoint_9 : decode cX0_leastPoint 9 = .ok (.iload_n 2, 1) := by decide +kernel
theorem dX0_leastPoint_10 : decode cX0_leastPoint 10 = .ok (.iload_n 3, 1) := by decide +kernel
theorem dX0_leastPoint_11 : decode cX0_leastPoint 11 = .ok (.invokestatic 31, 3) := by decide +kernel
theorem dX0_leastPoint_14 : decode cX0_leastPoint 14 = .ok (.iload_n 0, 1) := by decide +kernel
theorem dX0_leastPoint_15 : decode cX0_leastPoint 15 = .ok (.invokestatic 35, 3) := by decide +kernel
theorem dX0_leastPoint_18 : decode cX0_leastPoint 18 = .ok (.istore 4, 2) := by decide +kernel
theorem dX0_leastPoint_20 : decode cX0_leastPoint 20 = .ok (.iload 4, 2) := by decide +kernel
theorem dX0_leastPoint_22 : decode cX0_leastPoint 22 = .ok (.iconst (-1), 1) := by decide +kernel
theorem dX0_leastPoint_23 : decode cX0_leastPoint 23 = .ok (.if_icmp .eq 10, 3) := by decide +kernel
theorem dX0_leastPoint_26 : decode cX0_leastPoint 26 = .ok (.iload_n 3, 1) := by decide +kernel
theorem dX0_leastPoint_27 : decode cX0_leastPoint 27 = .ok (.iload 4, 2) := by decide +kernel
theorem dX0_leastPoint_29 : decode cX0_leastPoint 29 = .ok (.invokestatic 39, 3) := by decide +kernel
theorem dX0_leastPoint_32 : decode cX0_leastPoint 32 = .ok (.ireturn, 1) := by decide +kernel
theorem dX0_leastPoint_33 : decode cX0_leastPoint 33 = .ok (.iinc 3 1, 3) := by decide +kernel
theorem dX0_leastPoint_36 : decode cX0_leastPoint 36 = .ok (.goto (-34), 3) := by decide +kernel
theorem dX0_leastPoint_39 : decode cX0_leastPoint 39 = .ok (.iconst (-1), 1) := by decide +kernel
theorem dX0_leastPoint_40 : decode cX0_leastPoint 40 = .ok (.ireturn, 1) := by decide +kernel
theorem dX0_lesserRoot_0 : decode cX0_lesserRoot 0 = .ok (.iconst 0, 1) := by decide +kernel
theorem dX0_lesserRoot_1 : decode cX0_lesserRoot 1 = .ok (.istore_n 2, 1) := by decide +kernel
theorem dX0_lesserRoot_2 : decode cX0_lesserRoot 2 = .ok (.iload_n 2, 1) := by decide +kernel
theorem dX0_lesserRoot_3 : decode cX0_lesserRoot 3 = .ok (.iload_n 1, 1) := by decide +kernel
theorem dX0_lesserRoot_4 : decode cX0_lesserRoot 4 = .ok (.iconst 2, 1) := by decide +kernel
theorem dX0_lesserRoot_5 : decode cX0_lesserRoot 5 = .ok (.idiv, 1) := by decide +kernel
theorem dX0_lesserRoot_6 : decode cX0_lesserRoot 6 = .ok (.if_icmp .gt 20, 3) := by decide +kernel
theorem dX0_lesserRoot_9 : decode cX0_lesserRoot 9 = .ok (.iload_n 2, 1) := by decide +kernel
theorem dX0_lesserRoot_10 : decode cX0_lesserRoot 10 = .ok (.iload_n 2, 1) := by decide +kernel
theorem dX0_lesserRoot_11 : decode cX0_lesserRoot 11 = .ok (.imul, 1) := by decide +kernel
theorem dX0_lesserRoot_12 : decode cX0_lesserRoot 12 = .ok (.iload_n 1, 1) := by decide +kernel
theorem dX0_lesserRoot_13 : decode cX0_lesserRoot 13 = .ok (.irem, 1) := by decide +kernel
theorem dX0_lesserRoot_14 : decode cX0_lesserRoot 14 = .ok (.iload_n 0, 1) := by decide +kernel
theorem dX0_lesserRoot_15 : decode cX0_lesserRoot 15 = .ok (.if_icmp .ne 5, 3) := by decide +kernel
theorem dX0_lesserRoot_18 : decode cX0_lesserRoot 18 = .ok (.iload_n 2, 1) := by decide +kernel
theorem dX0_lesserRoot_19 : decode cX0_lesserRoot 19 = .ok (.ireturn, 1) := by decide +kernel
theorem dX0_lesserRoot_20 : decode cX0_lesserRoot 20 = .ok (.iinc 2 1, 3) := by decide +kernel
theorem dX0_lesserRoot_23 : decode cX0_lesserRoot 23 = .ok (.goto (-21), 3) := by decide +kernel
theorem dX0_lesserRoot_26 : decode cX0_lesserRoot 26 = .ok (.iconst (-1), 1) := by decide +kernel
theorem dX0_lesserRoot_27 : decode cX0_lesserRoot 27 = .ok (.ireturn, 1) := by decide +kernel
theorem dX0_holds_0 : decode cX0_holds 0 = .ok (.iload_n 1, 1) := by decide +kernel
theorem dX0_holds_1 : decode cX0_holds 1 = .ok (.ifCond .lt 54, 3) := by decide +kernel
theorem dX0_holds_4 : decode cX0_holds 4 = .ok (.iload_n 1, 1) := by decide +kernel
theorem dX0_holds_5 : decode cX0_holds 5 = .ok (.aload_n 0, 1) := by decide +kernel
theorem dX0_holds_6 : decode cX0_holds 6 = .ok (.getfield 9, 3) := by decide +kernel
theorem dX0_holds_9 : decode cX0_holds 9 = .ok (.if_icmp .ge 46, 3) := by decide +kernel
theorem dX0_holds_12 : decode cX0_holds 12 = .ok (.iload_n 2, 1) := by decide +kernel
theorem dX0_holds_13 : decode cX0_holds 13 = .ok (.ifCond .lt 42, 3) := by decide +kernel
theorem dX0_holds_16 : decode cX0_holds 16 = .ok (.iload_n 2, 1) := by decide +kernel
theorem dX0_holds_17 : decode cX0_holds 17 = .ok (.aload_n 0, 1) := by decide +kernel
theorem dX0_holds_18 : decode cX0_holds 18 = .ok (.getfield 9, 3) := by decide +kernel
theorem dX0_holds_21 : decode cX0_holds 21 = .ok (.if_icmp .ge 34, 3) := by decide +kernel
theorem dX0_holds_24 : decode cX0_holds 24 = .ok (.iload_n 2, 1) := by decide +kernel
theorem dX0_holds_25 : decode cX0_holds 25 = .ok (.iload_n 2, 1) := by decide +kernel
theorem dX0_holds_26 : decode cX0_holds 26 = .ok (.imul, 1) := by decide +kernel
theorem dX0_holds_27 : decode cX0_holds 27 = .ok (.aload_n 0, 1) := by decide +kernel
theorem dX0_holds_28 : decode cX0_holds 28 = .ok (.getfield 9, 3) := by decide +kernel
theorem dX0_holds_31 : decode cX0_holds 31 = .ok (.irem, 1) := by decide +kernel
theorem dX0_holds_32 : decode cX0_holds 32 = .ok (.aload_n 0, 1) := by decide +kernel
theorem dX0_holds_33 : decode cX0_holds 33 = .ok (.getfield 9, 3) := by decide +kernel
theorem dX0_holds_36 : decode cX0_holds 36 = .ok (.aload_n 0, 1) := by decide +kernel
theorem dX0_holds_37 : decode cX0_holds 37 = .ok (.getfield 15, 3) := by decide +kernel
theorem dX0_holds_40 : decode cX0_holds 40 = .ok (.aload_n 0, 1) := by decide +kernel
theorem dX0_holds_41 : decode cX0_holds 41 = .ok (.getfield 18, 3) := by decide +kernel
theorem dX0_holds_44 : decode cX0_holds 44 = .ok (.iload_n 1, 1) := by decide +kernel
theorem dX0_holds_45 : decode cX0_holds 45 = .ok (.invokestatic 31, 3) := by decide +kernel
theorem dX0_holds_48 : decode cX0_holds 48 = .ok (.if_icmp .ne 7, 3) := by decide +kernel
theorem dX0_holds_51 : decode cX0_holds 51 = .ok (.iconst 1, 1) := by decide +kernel
theorem dX0_holds_52 : decode cX0_holds 52 = .ok (.goto 4, 3) := by decide +kernel
theorem dX0_holds_55 : decode cX0_holds 55 = .ok (.iconst 0, 1) := by decide +kernel
theorem dX0_holds_56 : decode cX0_holds 56 = .ok (.ireturn, 1) := by decide +kernel
theorem dX0_isUnit_0 : decode cX0_isUnit 0 = .ok (.iload_n 1, 1) := by decide +kernel
theorem dX0_isUnit_1 : decode cX0_isUnit 1 = .ok (.iconst 1, 1) := by decide +kernel
theorem dX0_isUnit_2 : decode cX0_isUnit 2 = .ok (.if_icmp .lt 15, 3) := by decide +kernel
theorem dX0_isUnit_5 : decode cX0_isUnit 5 = .ok (.iload_n 1, 1) := by decide +kernel
theorem dX0_isUnit_6 : decode cX0_isUnit 6 = .ok (.aload_n 0, 1) := by decide +kernel
theorem dX0_isUnit_7 : decode cX0_isUnit 7 = .ok (.getfield 21, 3) := by decide +kernel
theorem dX0_isUnit_10 : decode cX0_isUnit 10 = .ok (.if_icmp .ge 7, 3) := by decide +kernel
theorem dX0_isUnit_13 : decode cX0_isUnit 13 = .ok (.iconst 1, 1) := by decide +kernel
theorem dX0_isUnit_14 : decode cX0_isUnit 14 = .ok (.goto 4, 3) := by decide +kernel
theorem dX0_isUnit_17 : decode cX0_isUnit 17 = .ok (.iconst 0, 1) := by decide +kernel
theorem dX0_isUnit_18 : decode cX0_isUnit 18 = .ok (.ireturn, 1) := by decide +kernel
theorem dX0_messageResidue_0 : decode cX0_messageResidue 0 = .ok (.lload_n 1, 1) := by decide +kernel
theorem dX0_messageResidue_1 : decode cX0_messageResidue 1 = .ok (.aload_n 0, 1) := by decide +kernel
theorem dX0_messageResidue_2 : decode cX0_messageResidue 2 = .ok (.getfield 21, 3) := by decide +kernel
theorem dX0_messageResidue_5 : decode cX0_messageResidue 5 = .ok (.i2l, 1) := by decide +kernel
theorem dX0_messageResidue_6 : decode cX0_messageResidue 6 = .ok (.invokestatic 42, 3) := by decide +kernel
theorem dX0_messageResidue_9 : decode cX0_messageResidue 9 = .ok (.l2i, 1) := by decide +kernel
theorem dX0_messageResidue_10 : decode cX0_messageResidue 10 = .ok (.ireturn, 1) := by decide +kernel
theorem dX0_plus_0 : decode cX0_plus 0 = .ok (.iload_n 1, 1) := by decide +kernel
theorem dX0_plus_1 : decode cX0_plus 1 = .ok (.iconst (-1), 1) := by decide +kernel
theorem dX0_plus_2 : decode cX0_plus 2 = .ok (.if_icmp .ne 5, 3) := by decide +kernel
theorem dX0_plus_5 : decode cX0_plus 5 = .ok (.iload_n 2, 1) := by decide +kernel
theorem dX0_plus_6 : decode cX0_plus 6 = .ok (.ireturn, 1) := by decide +kernel
theorem dX0_plus_7 : decode cX0_plus 7 = .ok (.iload_n 2, 1) := by decide +kernel
theorem dX0_plus_8 : decode cX0_plus 8 = .ok (.iconst (-1), 1) := by decide +kernel
theorem dX0_plus_9 : decode cX0_plus 9 = .ok (.if_icmp .ne 5, 3) := by decide +kernel
theorem dX0_plus_12 : decode cX0_plus 12 = .ok (.iload_n 1, 1) := by decide +kernel
theorem dX0_plus_13 : decode cX0_plus 13 = .ok (.ireturn, 1) := by decide +kernel
theorem dX0_plus_14 : decode cX0_plus 14 = .ok (.iload_n 1, 1) := by decide +kernel
theorem dX0_plus_15 : decode cX0_plus 15 = .ok (.invokestatic 48, 3) := by decide +kernel
theorem dX0_plus_18 : decode cX0_plus 18 = .ok (.istore_n 3, 1) := by decide +kernel
theorem dX0_plus_19 : decode cX0_plus 19 = .ok (.iload_n 2, 1) := by decide +kernel
theorem dX0_plus_20 : decode cX0_plus 20 = .ok (.invokestatic 48, 3) := by decide +kernel
theorem dX0_plus_23 : decode cX0_plus 23 = .ok (.istore 4, 2) := by decide +kernel
theorem dX0_plus_25 : decode cX0_plus 25 = .ok (.iload_n 3, 1) := by decide +kernel
theorem dX0_plus_26 : decode cX0_plus 26 = .ok (.iload 4, 2) := by decide +kernel
theorem dX0_plus_28 : decode cX0_plus 28 = .ok (.if_icmp .ne 21, 3) := by decide +kernel
theorem dX0_plus_31 : decode cX0_plus 31 = .ok (.iload_n 1, 1) := by decide +kernel
theorem dX0_plus_32 : decode cX0_plus 32 = .ok (.invokestatic 52, 3) := by decide +kernel
theorem dX0_plus_35 : decode cX0_plus 35 = .ok (.iload_n 2, 1) := by decide +kernel
theorem dX0_plus_36 : decode cX0_plus 36 = .ok (.invokestatic 52, 3) := by decide +kernel
theorem dX0_plus_39 : decode cX0_plus 39 = .ok (.iadd, 1) := by decide +kernel
theorem dX0_plus_40 : decode cX0_plus 40 = .ok (.aload_n 0, 1) := by decide +kernel
theorem dX0_plus_41 : decode cX0_plus 41 = .ok (.getfield 9, 3) := by decide +kernel
theorem dX0_plus_44 : decode cX0_plus 44 = .ok (.if_icmp .ne 5, 3) := by decide +kernel
theorem dX0_plus_47 : decode cX0_plus 47 = .ok (.iconst (-1), 1) := by decide +kernel
theorem dX0_plus_48 : decode cX0_plus 48 = .ok (.ireturn, 1) := by decide +kernel
theorem dX0_plus_49 : decode cX0_plus 49 = .ok (.aload_n 0, 1) := by decide +kernel
theorem dX0_plus_50 : decode cX0_plus 50 = .ok (.iload_n 1, 1) := by decide +kernel
theorem dX0_plus_51 : decode cX0_plus 51 = .ok (.iload_n 2, 1) := by decide +kernel
theorem dX0_plus_52 : decode cX0_plus 52 = .ok (.invokevirtual 55, 3) := by decide +kernel
theorem dX0_plus_55 : decode cX0_plus 55 = .ok (.istore 5, 2) := by decide +kernel
theorem dX0_plus_57 : decode cX0_plus 57 = .ok (.iload 5, 2) := by decide +kernel
theorem dX0_plus_59 : decode cX0_plus 59 = .ok (.iload 5, 2) := by decide +kernel
theorem dX0_plus_61 : decode cX0_plus 61 = .ok (.imul, 1) := by decide +kernel
theorem dX0_plus_62 : decode cX0_plus 62 = .ok (.iload_n 3, 1) := by decide +kernel
theorem dX0_plus_63 : decode cX0_plus 63 = .ok (.isub, 1) := by decide +kernel
theorem dX0_plus_64 : decode cX0_plus 64 = .ok (.iload 4, 2) := by decide +kernel
theorem dX0_plus_66 : decode cX0_plus 66 = .ok (.isub, 1) := by decide +kernel
theorem dX0_plus_67 : decode cX0_plus 67 = .ok (.aload_n 0, 1) := by decide +kernel
theorem dX0_plus_68 : decode cX0_plus 68 = .ok (.getfield 9, 3) := by decide +kernel
theorem dX0_plus_71 : decode cX0_plus 71 = .ok (.invokestatic 58, 3) := by decide +kernel
theorem dX0_plus_74 : decode cX0_plus 74 = .ok (.istore 6, 2) := by decide +kernel
theorem dX0_plus_76 : decode cX0_plus 76 = .ok (.iload 6, 2) := by decide +kernel
theorem dX0_plus_78 : decode cX0_plus 78 = .ok (.iload 5, 2) := by decide +kernel
theorem dX0_plus_80 : decode cX0_plus 80 = .ok (.iload_n 3, 1) := by decide +kernel
theorem dX0_plus_81 : decode cX0_plus 81 = .ok (.iload 6, 2) := by decide +kernel
theorem dX0_plus_83 : decode cX0_plus 83 = .ok (.isub, 1) := by decide +kernel
theorem dX0_plus_84 : decode cX0_plus 84 = .ok (.imul, 1) := by decide +kernel
theorem dX0_plus_85 : decode cX0_plus 85 = .ok (.iload_n 1, 1) := by decide +kernel
theorem dX0_plus_86 : decode cX0_plus 86 = .ok (.invokestatic 52, 3) := by decide +kernel
theorem dX0_plus_89 : decode cX0_plus 89 = .ok (.isub, 1) := by decide +kernel
theorem dX0_plus_90 : decode cX0_plus 90 = .ok (.aload_n 0, 1) := by decide +kernel
theorem dX0_plus_91 : decode cX0_plus 91 = .ok (.getfield 9, 3) := by decide +kernel
theorem dX0_plus_94 : decode cX0_plus 94 = .ok (.invokestatic 58, 3) := by decide +kernel
theorem dX0_plus_97 : decode cX0_plus 97 = .ok (.invokestatic 39, 3) := by decide +kernel
theorem dX0_plus_100 : decode cX0_plus 100 = .ok (.ireturn, 1) := by decide +kernel
theorem dX0_slope_0 : decode cX0_slope 0 = .ok (.iload_n 1, 1) := by decide +kernel
theorem dX0_slope_1 : decode cX0_slope 1 = .ok (.invokestatic 48, 3) := by decide +kernel
theorem dX0_slope_4 : decode cX0_slope 4 = .ok (.istore_n 3, 1) := by decide +kernel
theorem dX0_slope_5 : decode cX0_slope 5 = .ok (.iload_n 1, 1) := by decide +kernel
theorem dX0_slope_6 : decode cX0_slope 6 = .ok (.invokestatic 52, 3) := by decide +kernel
theorem dX0_slope_9 : decode cX0_slope 9 = .ok (.istore 4, 2) := by decide +kernel
theorem dX0_slope_11 : decode cX0_slope 11 = .ok (.iload_n 1, 1) := by decide +kernel
theorem dX0_slope_12 : decode cX0_slope 12 = .ok (.iload_n 2, 1) := by decide +kernel
theorem dX0_slope_13 : decode cX0_slope 13 = .ok (.if_icmp .ne 25, 3) := by decide +kernel
theorem dX0_slope_16 : decode cX0_slope 16 = .ok (.iconst 3, 1) := by decide +kernel
theorem dX0_slope_17 : decode cX0_slope 17 = .ok (.iload_n 3, 1) := by decide +kernel
theorem dX0_slope_18 : decode cX0_slope 18 = .ok (.imul, 1) := by decide +kernel
theorem dX0_slope_19 : decode cX0_slope 19 = .ok (.iload_n 3, 1) := by decide +kernel
theorem dX0_slope_20 : decode cX0_slope 20 = .ok (.imul, 1) := by decide +kernel
theorem dX0_slope_21 : decode cX0_slope 21 = .ok (.aload_n 0, 1) := by decide +kernel
theorem dX0_slope_22 : decode cX0_slope 22 = .ok (.getfield 15, 3) := by decide +kernel
theorem dX0_slope_25 : decode cX0_slope 25 = .ok (.iadd, 1) := by decide +kernel
theorem dX0_slope_26 : decode cX0_slope 26 = .ok (.iconst 2, 1) := by decide +kernel
theorem dX0_slope_27 : decode cX0_slope 27 = .ok (.iload 4, 2) := by decide +kernel
theorem dX0_slope_29 : decode cX0_slope 29 = .ok (.imul, 1) := by decide +kernel
theorem dX0_slope_30 : decode cX0_slope 30 = .ok (.aload_n 0, 1) := by decide +kernel
theorem dX0_slope_31 : decode cX0_slope 31 = .ok (.getfield 9, 3) := by decide +kernel
theorem dX0_slope_34 : decode cX0_slope 34 = .ok (.invokestatic 60, 3) := by decide +kernel
theorem dX0_slope_37 : decode cX0_slope 37 = .ok (.ireturn, 1) := by decide +kernel
theorem dX0_slope_38 : decode cX0_slope 38 = .ok (.iload_n 2, 1) := by decide +kernel
theorem dX0_slope_39 : decode cX0_slope 39 = .ok (.invokestatic 52, 3) := by decide +kernel
theorem dX0_slope_42 : decode cX0_slope 42 = .ok (.iload 4, 2) := by decide +kernel
theorem dX0_slope_44 : decode cX0_slope 44 = .ok (.isub, 1) := by decide +kernel
theorem dX0_slope_45 : decode cX0_slope 45 = .ok (.iload_n 2, 1) := by decide +kernel
theorem dX0_slope_46 : decode cX0_slope 46 = .ok (.invokestatic 48, 3) := by decide +kernel
theorem dX0_slope_49 : decode cX0_slope 49 = .ok (.iload_n 3, 1) := by decide +kernel
theorem dX0_slope_50 : decode cX0_slope 50 = .ok (.isub, 1) := by decide +kernel
theorem dX0_slope_51 : decode cX0_slope 51 = .ok (.aload_n 0, 1) := by decide +kernel
theorem dX0_slope_52 : decode cX0_slope 52 = .ok (.getfield 9, 3) := by decide +kernel
theorem dX0_slope_55 : decode cX0_slope 55 = .ok (.invokestatic 60, 3) := by decide +kernel
theorem dX0_slope_58 : decode cX0_slope 58 = .ok (.ireturn, 1) := by decide +kernel
theorem dX0_multiple_0 : decode cX0_multiple 0 = .ok (.iconst (-1), 1) := by decide +kernel
theorem dX0_multiple_1 : decode cX0_multiple 1 = .ok (.istore_n 3, 1) := by decide +kernel
theorem dX0_multiple_2 : decode cX0_multiple 2 = .ok (.iload_n 2, 1) := by decide +kernel
theorem dX0_multiple_3 : decode cX0_multiple 3 = .ok (.istore 4, 2) := by decide +kernel
theorem dX0_multiple_5 : decode cX0_multiple 5 = .ok (.iload_n 1, 1) := by decide +kernel
theorem dX0_multiple_6 : decode cX0_multiple 6 = .ok (.aload_n 0, 1) := by decide +kernel
theorem dX0_multiple_7 : decode cX0_multiple 7 = .ok (.getfield 21, 3) := by decide +kernel
theorem dX0_multiple_10 : decode cX0_multiple 10 = .ok (.invokestatic 58, 3) := by decide +kernel
theorem dX0_multiple_13 : decode cX0_multiple 13 = .ok (.istore 5, 2) := by decide +kernel
theorem dX0_multiple_15 : decode cX0_multiple 15 = .ok (.iload 5, 2) := by decide +kernel
theorem dX0_multiple_17 : decode cX0_multiple 17 = .ok (.ifCond .le 38, 3) := by decide +kernel
theorem dX0_multiple_20 : decode cX0_multiple 20 = .ok (.iload 5, 2) := by decide +kernel
theorem dX0_multiple_22 : decode cX0_multiple 22 = .ok (.iconst 1, 1) := by decide +kernel
theorem dX0_multiple_23 : decode cX0_multiple 23 = .ok (.iand, 1) := by decide +kernel
theorem dX0_multiple_24 : decode cX0_multiple 24 = .ok (.iconst 1, 1) := by decide +kernel
theorem dX0_multiple_25 : decode cX0_multiple 25 = .ok (.if_icmp .ne 11, 3) := by decide +kernel
theorem dX0_multiple_28 : decode cX0_multiple 28 = .ok (.aload_n 0, 1) := by decide +kernel
theorem dX0_multiple_29 : decode cX0_multiple 29 = .ok (.iload_n 3, 1) := by decide +kernel
theorem dX0_multiple_30 : decode cX0_multiple 30 = .ok (.iload 4, 2) := by decide +kernel
theorem dX0_multiple_32 : decode cX0_multiple 32 = .ok (.invokevirtual 63, 3) := by decide +kernel
theorem dX0_multiple_35 : decode cX0_multiple 35 = .ok (.istore_n 3, 1) := by decide +kernel
theorem dX0_multiple_36 : decode cX0_multiple 36 = .ok (.aload_n 0, 1) := by decide +kernel
theorem dX0_multiple_37 : decode cX0_multiple 37 = .ok (.iload 4, 2) := by decide +kernel
theorem dX0_multiple_39 : decode cX0_multiple 39 = .ok (.iload 4, 2) := by decide +kernel
theorem dX0_multiple_41 : decode cX0_multiple 41 = .ok (.invokevirtual 63, 3) := by decide +kernel
theorem dX0_multiple_44 : decode cX0_multiple 44 = .ok (.istore 4, 2) := by decide +kernel
theorem dX0_multiple_46 : decode cX0_multiple 46 = .ok (.iload 5, 2) := by decide +kernel
theorem dX0_multiple_48 : decode cX0_multiple 48 = .ok (.iconst 1, 1) := by decide +kernel
theorem dX0_multiple_49 : decode cX0_multiple 49 = .ok (.ishr, 1) := by decide +kernel
theorem dX0_multiple_50 : decode cX0_multiple 50 = .ok (.istore 5, 2) := by decide +kernel
theorem dX0_multiple_52 : decode cX0_multiple 52 = .ok (.goto (-37), 3) := by decide +kernel
theorem dX0_multiple_55 : decode cX0_multiple 55 = .ok (.iload_n 3, 1) := by decide +kernel
theorem dX0_multiple_56 : decode cX0_multiple 56 = .ok (.ireturn, 1) := by decide +kernel
theorem dX0_pointOfBytes_0 : decode cX0_pointOfBytes 0 = .ok (.iload_n 1, 1) := by decide +kernel
theorem dX0_pointOfBytes_1 : decode cX0_pointOfBytes 1 = .ok (.iconst 1, 1) := by decide +kernel
theorem dX0_pointOfBytes_2 : decode cX0_pointOfBytes 2 = .ok (.if_icmp .ne 16, 3) := by decide +kernel
theorem dX0_pointOfBytes_5 : decode cX0_pointOfBytes 5 = .ok (.lload_n 2, 1) := by decide +kernel
theorem dX0_pointOfBytes_6 : decode cX0_pointOfBytes 6 = .ok (.lconst 0, 1) := by decide +kernel
theorem dX0_pointOfBytes_7 : decode cX0_pointOfBytes 7 = .ok (.lcmp, 1) := by decide +kernel
theorem dX0_pointOfBytes_8 : decode cX0_pointOfBytes 8 = .ok (.ifCond .ne 7, 3) := by decide +kernel
theorem dX0_pointOfBytes_11 : decode cX0_pointOfBytes 11 = .ok (.iconst (-1), 1) := by decide +kernel
theorem dX0_pointOfBytes_12 : decode cX0_pointOfBytes 12 = .ok (.goto 5, 3) := by decide +kernel
theorem dX0_pointOfBytes_15 : decode cX0_pointOfBytes 15 = .ok (.bipush (-2), 2) := by decide +kernel
theorem dX0_pointOfBytes_17 : decode cX0_pointOfBytes 17 = .ok (.ireturn, 1) := by decide +kernel
theorem dX0_pointOfBytes_18 : decode cX0_pointOfBytes 18 = .ok (.iload_n 1, 1) := by decide +kernel
theorem dX0_pointOfBytes_19 : decode cX0_pointOfBytes 19 = .ok (.iconst 3, 1) := by decide +kernel
theorem dX0_pointOfBytes_20 : decode cX0_pointOfBytes 20 = .ok (.if_icmp .ne 9, 3) := by decide +kernel
theorem dX0_pointOfBytes_23 : decode cX0_pointOfBytes 23 = .ok (.aload_n 0, 1) := by decide +kernel
theorem dX0_pointOfBytes_24 : decode cX0_pointOfBytes 24 = .ok (.lload_n 2, 1) := by decide +kernel
theorem dX0_pointOfBytes_25 : decode cX0_pointOfBytes 25 = .ok (.invokevirtual 66, 3) := by decide +kernel
theorem dX0_pointOfBytes_28 : decode cX0_pointOfBytes 28 = .ok (.ireturn, 1) := by decide +kernel
theorem dX0_pointOfBytes_29 : decode cX0_pointOfBytes 29 = .ok (.iload_n 1, 1) := by decide +kernel
theorem dX0_pointOfBytes_30 : decode cX0_pointOfBytes 30 = .ok (.iconst 5, 1) := by decide +kernel
theorem dX0_pointOfBytes_31 : decode cX0_pointOfBytes 31 = .ok (.if_icmp .ne 11, 3) := by decide +kernel
theorem dX0_pointOfBytes_34 : decode cX0_pointOfBytes 34 = .ok (.aload_n 0, 1) := by decide +kernel
theorem dX0_pointOfBytes_35 : decode cX0_pointOfBytes 35 = .ok (.lload_n 2, 1) := by decide +kernel
theorem dX0_pointOfBytes_36 : decode cX0_pointOfBytes 36 = .ok (.invokevirtual 70, 3) := by decide +kernel
theorem dX0_pointOfBytes_39 : decode cX0_pointOfBytes 39 = .ok (.goto 5, 3) := by decide +kernel
theorem dX0_pointOfBytes_42 : decode cX0_pointOfBytes 42 = .ok (.bipush (-2), 2) := by decide +kernel
theorem dX0_pointOfBytes_44 : decode cX0_pointOfBytes 44 = .ok (.ireturn, 1) := by decide +kernel
theorem dX0_pointOfShort_0 : decode cX0_pointOfShort 0 = .ok (.lload_n 1, 1) := by decide +kernel
theorem dX0_pointOfShort_1 : decode cX0_pointOfShort 1 = .ok (.bipush 16, 2) := by decide +kernel
theorem dX0_pointOfShort_3 : decode cX0_pointOfShort 3 = .ok (.lshr, 1) := by decide +kernel
theorem dX0_pointOfShort_4 : decode cX0_pointOfShort 4 = .ok (.lstore_n 3, 1) := by decide +kernel
theorem dX0_pointOfShort_5 : decode cX0_pointOfShort 5 = .ok (.lload_n 1, 1) := by decide +kernel
theorem dX0_pointOfShort_6 : decode cX0_pointOfShort 6 = .ok (.ldc2_w 73, 3) := by decide +kernel
theorem dX0_pointOfShort_9 : decode cX0_pointOfShort 9 = .ok (.land, 1) := by decide +kernel
theorem dX0_pointOfShort_10 : decode cX0_pointOfShort 10 = .ok (.l2i, 1) := by decide +kernel
theorem dX0_pointOfShort_11 : decode cX0_pointOfShort 11 = .ok (.istore 5, 2) := by decide +kernel
theorem dX0_pointOfShort_13 : decode cX0_pointOfShort 13 = .ok (.lload_n 3, 1) := by decide +kernel
theorem dX0_pointOfShort_14 : decode cX0_pointOfShort 14 = .ok (.ldc2_w 75, 3) := by decide +kernel
theorem dX0_pointOfShort_17 : decode cX0_pointOfShort 17 = .ok (.lcmp, 1) := by decide +kernel
theorem dX0_pointOfShort_18 : decode cX0_pointOfShort 18 = .ok (.ifCond .eq 11, 3) := by decide +kernel
theorem dX0_pointOfShort_21 : decode cX0_pointOfShort 21 = .ok (.lload_n 3, 1) := by decide +kernel
theorem dX0_pointOfShort_22 : decode cX0_pointOfShort 22 = .ok (.ldc2_w 77, 3) := by decide +kernel
theorem dX0_pointOfShort_25 : decode cX0_pointOfShort 25 = .ok (.lcmp, 1) := by decide +kernel
theorem dX0_pointOfShort_26 : decode cX0_pointOfShort 26 = .ok (.ifCond .ne 12, 3) := by decide +kernel
theorem dX0_pointOfShort_29 : decode cX0_pointOfShort 29 = .ok (.iload 5, 2) := by decide +kernel
theorem dX0_pointOfShort_31 : decode cX0_pointOfShort 31 = .ok (.aload_n 0, 1) := by decide +kernel
theorem dX0_pointOfShort_32 : decode cX0_pointOfShort 32 = .ok (.getfield 9, 3) := by decide +kernel
theorem dX0_pointOfShort_35 : decode cX0_pointOfShort 35 = .ok (.if_icmp .lt 6, 3) := by decide +kernel
theorem dX0_pointOfShort_38 : decode cX0_pointOfShort 38 = .ok (.bipush (-2), 2) := by decide +kernel
theorem dX0_pointOfShort_40 : decode cX0_pointOfShort 40 = .ok (.ireturn, 1) := by decide +kernel
theorem dX0_pointOfShort_41 : decode cX0_pointOfShort 41 = .ok (.aload_n 0, 1) := by decide +kernel
theorem dX0_pointOfShort_42 : decode cX0_pointOfShort 42 = .ok (.getfield 9, 3) := by decide +kernel
theorem dX0_pointOfShort_45 : decode cX0_pointOfShort 45 = .ok (.aload_n 0, 1) := by decide +kernel
theorem dX0_pointOfShort_46 : decode cX0_pointOfShort 46 = .ok (.getfield 15, 3) := by decide +kernel
theorem dX0_pointOfShort_49 : decode cX0_pointOfShort 49 = .ok (.aload_n 0, 1) := by decide +kernel
theorem dX0_pointOfShort_50 : decode cX0_pointOfShort 50 = .ok (.getfield 18, 3) := by decide +kernel
theorem dX0_pointOfShort_53 : decode cX0_pointOfShort 53 = .ok (.iload 5, 2) := by decide +kernel
theorem dX0_pointOfShort_55 : decode cX0_pointOfShort 55 = .ok (.invokestatic 31, 3) := by decide +kernel
theorem dX0_pointOfShort_58 : decode cX0_pointOfShort 58 = .ok (.aload_n 0, 1) := by decide +kernel
theorem dX0_pointOfShort_59 : decode cX0_pointOfShort 59 = .ok (.getfield 9, 3) := by decide +kernel
theorem dX0_pointOfShort_62 : decode cX0_pointOfShort 62 = .ok (.invokestatic 35, 3) := by decide +kernel
theorem dX0_pointOfShort_65 : decode cX0_pointOfShort 65 = .ok (.istore 6, 2) := by decide +kernel
theorem dX0_pointOfShort_67 : decode cX0_pointOfShort 67 = .ok (.iload 6, 2) := by decide +kernel
theorem dX0_pointOfShort_69 : decode cX0_pointOfShort 69 = .ok (.iconst (-1), 1) := by decide +kernel
theorem dX0_pointOfShort_70 : decode cX0_pointOfShort 70 = .ok (.if_icmp .ne 6, 3) := by decide +kernel
theorem dX0_pointOfShort_73 : decode cX0_pointOfShort 73 = .ok (.bipush (-2), 2) := by decide +kernel
theorem dX0_pointOfShort_75 : decode cX0_pointOfShort 75 = .ok (.ireturn, 1) := by decide +kernel
theorem dX0_pointOfShort_76 : decode cX0_pointOfShort 76 = .ok (.iload 5, 2) := by decide +kernel
theorem dX0_pointOfShort_78 : decode cX0_pointOfShort 78 = .ok (.iload 6, 2) := by decide +kernel
theorem dX0_pointOfShort_80 : decode cX0_pointOfShort 80 = .ok (.iconst 2, 1) := by decide +kernel
theorem dX0_pointOfShort_81 : decode cX0_pointOfShort 81 = .ok (.irem, 1) := by decide +kernel
theorem dX0_pointOfShort_82 : decode cX0_pointOfShort 82 = .ok (.i2l, 1) := by decide +kernel
theorem dX0_pointOfShort_83 : decode cX0_pointOfShort 83 = .ok (.lload_n 3, 1) := by decide +kernel
theorem dX0_pointOfShort_84 : decode cX0_pointOfShort 84 = .ok (.ldc2_w 75, 3) := by decide +kernel
theorem dX0_pointOfShort_87 : decode cX0_pointOfShort 87 = .ok (.lsub, 1) := by decide +kernel
theorem dX0_pointOfShort_88 : decode cX0_pointOfShort 88 = .ok (.lcmp, 1) := by decide +kernel
theorem dX0_pointOfShort_89 : decode cX0_pointOfShort 89 = .ok (.ifCond .ne 8, 3) := by decide +kernel
theorem dX0_pointOfShort_92 : decode cX0_pointOfShort 92 = .ok (.iload 6, 2) := by decide +kernel
theorem dX0_pointOfShort_94 : decode cX0_pointOfShort 94 = .ok (.goto 10, 3) := by decide +kernel
theorem dX0_pointOfShort_97 : decode cX0_pointOfShort 97 = .ok (.aload_n 0, 1) := by decide +kernel
theorem dX0_pointOfShort_98 : decode cX0_pointOfShort 98 = .ok (.getfield 9, 3) := by decide +kernel
theorem dX0_pointOfShort_101 : decode cX0_pointOfShort 101 = .ok (.iload 6, 2) := by decide +kernel
theorem dX0_pointOfShort_103 : decode cX0_pointOfShort 103 = .ok (.isub, 1) := by decide +kernel
theorem dX0_pointOfShort_104 : decode cX0_pointOfShort 104 = .ok (.invokestatic 39, 3) := by decide +kernel
theorem dX0_pointOfShort_107 : decode cX0_pointOfShort 107 = .ok (.ireturn, 1) := by decide +kernel
theorem dX0_pointOfPlain_0 : decode cX0_pointOfPlain 0 = .ok (.lload_n 1, 1) := by decide +kernel
theorem dX0_pointOfPlain_1 : decode cX0_pointOfPlain 1 = .ok (.bipush 16, 2) := by decide +kernel
theorem dX0_pointOfPlain_3 : decode cX0_pointOfPlain 3 = .ok (.lshr, 1) := by decide +kernel
theorem dX0_pointOfPlain_4 : decode cX0_pointOfPlain 4 = .ok (.ldc2_w 73, 3) := by decide +kernel
theorem dX0_pointOfPlain_7 : decode cX0_pointOfPlain 7 = .ok (.land, 1) := by decide +kernel
theorem dX0_pointOfPlain_8 : decode cX0_pointOfPlain 8 = .ok (.l2i, 1) := by decide +kernel
theorem dX0_pointOfPlain_9 : decode cX0_pointOfPlain 9 = .ok (.istore_n 3, 1) := by decide +kernel
theorem dX0_pointOfPlain_10 : decode cX0_pointOfPlain 10 = .ok (.lload_n 1, 1) := by decide +kernel
theorem dX0_pointOfPlain_11 : decode cX0_pointOfPlain 11 = .ok (.ldc2_w 73, 3) := by decide +kernel
theorem dX0_pointOfPlain_14 : decode cX0_pointOfPlain 14 = .ok (.land, 1) := by decide +kernel
theorem dX0_pointOfPlain_15 : decode cX0_pointOfPlain 15 = .ok (.l2i, 1) := by decide +kernel
theorem dX0_pointOfPlain_16 : decode cX0_pointOfPlain 16 = .ok (.istore 4, 2) := by decide +kernel
theorem dX0_pointOfPlain_18 : decode cX0_pointOfPlain 18 = .ok (.lload_n 1, 1) := by decide +kernel
theorem dX0_pointOfPlain_19 : decode cX0_pointOfPlain 19 = .ok (.bipush 32, 2) := by decide +kernel
theorem dX0_pointOfPlain_21 : decode cX0_pointOfPlain 21 = .ok (.lshr, 1) := by decide +kernel
theorem dX0_pointOfPlain_22 : decode cX0_pointOfPlain 22 = .ok (.ldc2_w 79, 3) := by decide +kernel
theorem dX0_pointOfPlain_25 : decode cX0_pointOfPlain 25 = .ok (.lcmp, 1) := by decide +kernel
theorem dX0_pointOfPlain_26 : decode cX0_pointOfPlain 26 = .ok (.ifCond .ne 22, 3) := by decide +kernel
theorem dX0_pointOfPlain_29 : decode cX0_pointOfPlain 29 = .ok (.aload_n 0, 1) := by decide +kernel
theorem dX0_pointOfPlain_30 : decode cX0_pointOfPlain 30 = .ok (.iload_n 3, 1) := by decide +kernel
theorem dX0_pointOfPlain_31 : decode cX0_pointOfPlain 31 = .ok (.iload 4, 2) := by decide +kernel
theorem dX0_pointOfPlain_33 : decode cX0_pointOfPlain 33 = .ok (.invokevirtual 81, 3) := by decide +kernel
theorem dX0_pointOfPlain_36 : decode cX0_pointOfPlain 36 = .ok (.ifCond .eq 12, 3) := by decide +kernel
theorem dX0_pointOfPlain_39 : decode cX0_pointOfPlain 39 = .ok (.iload_n 3, 1) := by decide +kernel
theorem dX0_pointOfPlain_40 : decode cX0_pointOfPlain 40 = .ok (.iload 4, 2) := by decide +kernel
theorem dX0_pointOfPlain_42 : decode cX0_pointOfPlain 42 = .ok (.invokestatic 39, 3) := by decide +kernel
theorem dX0_pointOfPlain_45 : decode cX0_pointOfPlain 45 = .ok (.goto 5, 3) := by decide +kernel
theorem dX0_pointOfPlain_48 : decode cX0_pointOfPlain 48 = .ok (.bipush (-2), 2) := by decide +kernel
theorem dX0_pointOfPlain_50 : decode cX0_pointOfPlain 50 = .ok (.ireturn, 1) := by decide +kernel
theorem dX0_drawMask_0 : decode cX0_drawMask 0 = .ok (.iconst 1, 1) := by decide +kernel
theorem dX0_drawMask_1 : decode cX0_drawMask 1 = .ok (.istore_n 1, 1) := by decide +kernel
theorem dX0_drawMask_2 : decode cX0_drawMask 2 = .ok (.iconst 1, 1) := by decide +kernel
theorem dX0_drawMask_3 : decode cX0_drawMask 3 = .ok (.istore_n 2, 1) := by decide +kernel
theorem dX0_drawMask_4 : decode cX0_drawMask 4 = .ok (.iload_n 2, 1) := by decide +kernel
theorem dX0_drawMask_5 : decode cX0_drawMask 5 = .ok (.bipush 31, 2) := by decide +kernel
theorem dX0_drawMask_7 : decode cX0_drawMask 7 = .ok (.if_icmp .ge 23, 3) := by decide +kernel
theorem dX0_drawMask_10 : decode cX0_drawMask 10 = .ok (.iload_n 1, 1) := by decide +kernel
theorem dX0_drawMask_11 : decode cX0_drawMask 11 = .ok (.aload_n 0, 1) := by decide +kernel
theorem dX0_drawMask_12 : decode cX0_drawMask 12 = .ok (.getfield 21, 3) := by decide +kernel
theorem dX0_drawMask_15 : decode cX0_drawMask 15 = .ok (.if_icmp .ge 15, 3) := by decide +kernel
theorem dX0_drawMask_18 : decode cX0_drawMask 18 = .ok (.iload_n 1, 1) := by decide +kernel
theorem dX0_drawMask_19 : decode cX0_drawMask 19 = .ok (.iconst 2, 1) := by decide +kernel
theorem dX0_drawMask_20 : decode cX0_drawMask 20 = .ok (.imul, 1) := by decide +kernel
theorem dX0_drawMask_21 : decode cX0_drawMask 21 = .ok (.iconst 1, 1) := by decide +kernel
theorem dX0_drawMask_22 : decode cX0_drawMask 22 = .ok (.iadd, 1) := by decide +kernel
theorem dX0_drawMask_23 : decode cX0_drawMask 23 = .ok (.istore_n 1, 1) := by decide +kernel
theorem dX0_drawMask_24 : decode cX0_drawMask 24 = .ok (.iinc 2 1, 3) := by decide +kernel
theorem dX0_drawMask_27 : decode cX0_drawMask 27 = .ok (.goto (-23), 3) := by decide +kernel
theorem dX0_drawMask_30 : decode cX0_drawMask 30 = .ok (.iload_n 1, 1) := by decide +kernel
theorem dX0_drawMask_31 : decode cX0_drawMask 31 = .ok (.ireturn, 1) := by decide +kernel
theorem dX0_signatureFrom_0 : decode cX0_signatureFrom 0 = .ok (.aload_n 0, 1) := by decide +kernel
theorem dX0_signatureFrom_1 : decode cX0_signatureFrom 1 = .ok (.iload_n 1, 1) := by decide +kernel
theorem dX0_signatureFrom_2 : decode cX0_signatureFrom 2 = .ok (.invokevirtual 85, 3) := by decide +kernel
theorem dX0_signatureFrom_5 : decode cX0_signatureFrom 5 = .ok (.ifCond .ne 5, 3) := by decide +kernel
theorem dX0_signatureFrom_8 : decode cX0_signatureFrom 8 = .ok (.lconst 0, 1) := by decide +kernel
theorem dX0_signatureFrom_9 : decode cX0_signatureFrom 9 = .ok (.lreturn, 1) := by decide +kernel
theorem dX0_signatureFrom_10 : decode cX0_signatureFrom 10 = .ok (.aload_n 0, 1) := by decide +kernel
theorem dX0_signatureFrom_11 : decode cX0_signatureFrom 11 = .ok (.iload_n 1, 1) := by decide +kernel
theorem dX0_signatureFrom_12 : decode cX0_signatureFrom 12 = .ok (.aload_n 0, 1) := by decide +kernel
theorem dX0_signatureFrom_13 : decode cX0_signatureFrom 13 = .ok (.getfield 28, 3) := by decide +kernel
theorem dX0_signatureFrom_16 : decode cX0_signatureFrom 16 = .ok (.invokevirtual 89, 3) := by decide +kernel
theorem dX0_signatureFrom_19 : decode cX0_signatureFrom 19 = .ok (.invokestatic 48, 3) := by decide +kernel
theorem dX0_signatureFrom_22 : decode cX0_signatureFrom 22 = .ok (.aload_n 0, 1) := by decide +kernel
theorem dX0_signatureFrom_23 : decode cX0_signatureFrom 23 = .ok (.getfield 21, 3) := by decide +kernel
theorem dX0_signatureFrom_26 : decode cX0_signatureFrom 26 = .ok (.irem, 1) := by decide +kernel
theorem dX0_signatureFrom_27 : decode cX0_signatureFrom 27 = .ok (.istore 4, 2) := by decide +kernel
theorem dX0_signatureFrom_29 : decode cX0_signatureFrom 29 = .ok (.iload_n 2, 1) := by decide +kernel
theorem dX0_signatureFrom_30 : decode cX0_signatureFrom 30 = .ok (.iload 4, 2) := by decide +kernel
theorem dX0_signatureFrom_32 : decode cX0_signatureFrom 32 = .ok (.iload_n 3, 1) := by decide +kernel
theorem dX0_signatureFrom_33 : decode cX0_signatureFrom 33 = .ok (.imul, 1) := by decide +kernel
theorem dX0_signatureFrom_34 : decode cX0_signatureFrom 34 = .ok (.iadd, 1) := by decide +kernel
theorem dX0_signatureFrom_35 : decode cX0_signatureFrom 35 = .ok (.iload_n 1, 1) := by decide +kernel
theorem dX0_signatureFrom_36 : decode cX0_signatureFrom 36 = .ok (.aload_n 0, 1) := by decide +kernel
theorem dX0_signatureFrom_37 : decode cX0_signatureFrom 37 = .ok (.getfield 21, 3) := by decide +kernel
theorem dX0_signatureFrom_40 : decode cX0_signatureFrom 40 = .ok (.invokestatic 60, 3) := by decide +kernel
theorem dX0_signatureFrom_43 : decode cX0_signatureFrom 43 = .ok (.istore 5, 2) := by decide +kernel
theorem dX0_signatureFrom_45 : decode cX0_signatureFrom 45 = .ok (.iload 4, 2) := by decide +kernel
theorem dX0_signatureFrom_47 : decode cX0_signatureFrom 47 = .ok (.ifCond .eq 8, 3) := by decide +kernel
theorem dX0_signatureFrom_50 : decode cX0_signatureFrom 50 = .ok (.iload 5, 2) := by decide +kernel
theorem dX0_signatureFrom_52 : decode cX0_signatureFrom 52 = .ok (.ifCond .ne 7, 3) := by decide +kernel
theorem dX0_signatureFrom_55 : decode cX0_signatureFrom 55 = .ok (.lconst 0, 1) := by decide +kernel
theorem dX0_signatureFrom_56 : decode cX0_signatureFrom 56 = .ok (.goto 14, 3) := by decide +kernel
theorem dX0_signatureFrom_59 : decode cX0_signatureFrom 59 = .ok (.iload 4, 2) := by decide +kernel
theorem dX0_signatureFrom_61 : decode cX0_signatureFrom 61 = .ok (.i2l, 1) := by decide +kernel
theorem dX0_signatureFrom_62 : decode cX0_signatureFrom 62 = .ok (.ldc2_w 92, 3) := by decide +kernel
theorem dX0_signatureFrom_65 : decode cX0_signatureFrom 65 = .ok (.lmul, 1) := by decide +kernel
theorem dX0_signatureFrom_66 : decode cX0_signatureFrom 66 = .ok (.iload 5, 2) := by decide +kernel
theorem dX0_signatureFrom_68 : decode cX0_signatureFrom 68 = .ok (.i2l, 1) := by decide +kernel
theorem dX0_signatureFrom_69 : decode cX0_signatureFrom 69 = .ok (.ladd, 1) := by decide +kernel
theorem dX0_signatureFrom_70 : decode cX0_signatureFrom 70 = .ok (.lreturn, 1) := by decide +kernel
theorem dX0_fits_0 : decode cX0_fits 0 = .ok (.iload_n 1, 1) := by decide +kernel
theorem dX0_fits_1 : decode cX0_fits 1 = .ok (.iconst (-1), 1) := by decide +kernel
theorem dX0_fits_2 : decode cX0_fits 2 = .ok (.if_icmp .eq 21, 3) := by decide +kernel
theorem dX0_fits_5 : decode cX0_fits 5 = .ok (.aload_n 0, 1) := by decide +kernel
theorem dX0_fits_6 : decode cX0_fits 6 = .ok (.iload 4, 2) := by decide +kernel
theorem dX0_fits_8 : decode cX0_fits 8 = .ok (.invokevirtual 85, 3) := by decide +kernel
theorem dX0_fits_11 : decode cX0_fits 11 = .ok (.ifCond .eq 12, 3) := by decide +kernel
theorem dX0_fits_14 : decode cX0_fits 14 = .ok (.aload_n 0, 1) := by decide +kernel
theorem dX0_fits_15 : decode cX0_fits 15 = .ok (.iload 5, 2) := by decide +kernel
theorem dX0_fits_17 : decode cX0_fits 17 = .ok (.invokevirtual 85, 3) := by decide +kernel
theorem dX0_fits_20 : decode cX0_fits 20 = .ok (.ifCond .ne 5, 3) := by decide +kernel
theorem dX0_fits_23 : decode cX0_fits 23 = .ok (.iconst 0, 1) := by decide +kernel
theorem dX0_fits_24 : decode cX0_fits 24 = .ok (.ireturn, 1) := by decide +kernel
theorem dX0_fits_25 : decode cX0_fits 25 = .ok (.iload 5, 2) := by decide +kernel
theorem dX0_fits_27 : decode cX0_fits 27 = .ok (.aload_n 0, 1) := by decide +kernel
theorem dX0_fits_28 : decode cX0_fits 28 = .ok (.getfield 21, 3) := by decide +kernel
theorem dX0_fits_31 : decode cX0_fits 31 = .ok (.invokestatic 94, 3) := by decide +kernel
theorem dX0_fits_34 : decode cX0_fits 34 = .ok (.istore 6, 2) := by decide +kernel
theorem dX0_fits_36 : decode cX0_fits 36 = .ok (.aload_n 0, 1) := by decide +kernel
theorem dX0_fits_37 : decode cX0_fits 37 = .ok (.aload_n 0, 1) := by decide +kernel
theorem dX0_fits_38 : decode cX0_fits 38 = .ok (.lload_n 2, 1) := by decide +kernel
theorem dX0_fits_39 : decode cX0_fits 39 = .ok (.invokevirtual 97, 3) := by decide +kernel
theorem dX0_fits_42 : decode cX0_fits 42 = .ok (.iload 6, 2) := by decide +kernel
theorem dX0_fits_44 : decode cX0_fits 44 = .ok (.imul, 1) := by decide +kernel
theorem dX0_fits_45 : decode cX0_fits 45 = .ok (.aload_n 0, 1) := by decide +kernel
theorem dX0_fits_46 : decode cX0_fits 46 = .ok (.getfield 21, 3) := by decide +kernel
theorem dX0_fits_49 : decode cX0_fits 49 = .ok (.irem, 1) := by decide +kernel
theorem dX0_fits_50 : decode cX0_fits 50 = .ok (.aload_n 0, 1) := by decide +kernel
theorem dX0_fits_51 : decode cX0_fits 51 = .ok (.getfield 28, 3) := by decide +kernel
theorem dX0_fits_54 : decode cX0_fits 54 = .ok (.invokevirtual 89, 3) := by decide +kernel
theorem dX0_fits_57 : decode cX0_fits 57 = .ok (.istore 7, 2) := by decide +kernel
theorem dX0_fits_59 : decode cX0_fits 59 = .ok (.aload_n 0, 1) := by decide +kernel
theorem dX0_fits_60 : decode cX0_fits 60 = .ok (.iload 7, 2) := by decide +kernel
theorem dX0_fits_62 : decode cX0_fits 62 = .ok (.aload_n 0, 1) := by decide +kernel
theorem dX0_fits_63 : decode cX0_fits 63 = .ok (.iload 4, 2) := by decide +kernel
theorem dX0_fits_65 : decode cX0_fits 65 = .ok (.iload 6, 2) := by decide +kernel
theorem dX0_fits_67 : decode cX0_fits 67 = .ok (.imul, 1) := by decide +kernel
theorem dX0_fits_68 : decode cX0_fits 68 = .ok (.aload_n 0, 1) := by decide +kernel
theorem dX0_fits_69 : decode cX0_fits 69 = .ok (.getfield 21, 3) := by decide +kernel
theorem dX0_fits_72 : decode cX0_fits 72 = .ok (.irem, 1) := by decide +kernel
theorem dX0_fits_73 : decode cX0_fits 73 = .ok (.iload_n 1, 1) := by decide +kernel
theorem dX0_fits_74 : decode cX0_fits 74 = .ok (.invokevirtual 89, 3) := by decide +kernel
theorem dX0_fits_77 : decode cX0_fits 77 = .ok (.invokevirtual 63, 3) := by decide +kernel
theorem dX0_fits_80 : decode cX0_fits 80 = .ok (.istore 8, 2) := by decide +kernel
theorem dX0_fits_82 : decode cX0_fits 82 = .ok (.iload 8, 2) := by decide +kernel
theorem dX0_fits_84 : decode cX0_fits 84 = .ok (.iconst (-1), 1) := by decide +kernel
theorem dX0_fits_85 : decode cX0_fits 85 = .ok (.if_icmp .eq 22, 3) := by decide +kernel
theorem dX0_fits_88 : decode cX0_fits 88 = .ok (.iload 8, 2) := by decide +kernel
theorem dX0_fits_90 : decode cX0_fits 90 = .ok (.invokestatic 48, 3) := by decide +kernel
theorem dX0_fits_93 : decode cX0_fits 93 = .ok (.aload_n 0, 1) := by decide +kernel
theorem dX0_fits_94 : decode cX0_fits 94 = .ok (.getfield 21, 3) := by decide +kernel
theorem dX0_fits_97 : decode cX0_fits 97 = .ok (.irem, 1) := by decide +kernel
theorem dX0_fits_98 : decode cX0_fits 98 = .ok (.iload 4, 2) := by decide +kernel
theorem dX0_fits_100 : decode cX0_fits 100 = .ok (.if_icmp .ne 7, 3) := by decide +kernel
theorem dX0_fits_103 : decode cX0_fits 103 = .ok (.iconst 1, 1) := by decide +kernel
theorem dX0_fits_104 : decode cX0_fits 104 = .ok (.goto 4, 3) := by decide +kernel
theorem dX0_fits_107 : decode cX0_fits 107 = .ok (.iconst 0, 1) := by decide +kernel
theorem dX0_fits_108 : decode cX0_fits 108 = .ok (.ireturn, 1) := by decide +kernel
theorem dJM_floorModI_0 : decode cJM_floorModI 0 = .ok (.iload_n 0, 1) := by decide +kernel
theorem dJM_floorModI_1 : decode cJM_floorModI 1 = .ok (.iload_n 1, 1) := by decide +kernel
theorem dJM_floorModI_2 : decode cJM_floorModI 2 = .ok (.irem, 1) := by decide +kernel
theorem dJM_floorModI_3 : decode cJM_floorModI 3 = .ok (.istore_n 2, 1) := by decide +kernel
theorem dJM_floorModI_4 : decode cJM_floorModI 4 = .ok (.iload_n 0, 1) := by decide +kernel
theorem dJM_floorModI_5 : decode cJM_floorModI 5 = .ok (.iload_n 1, 1) := by decide +kernel
theorem dJM_floorModI_6 : decode cJM_floorModI 6 = .ok (.ixor, 1) := by decide +kernel
theorem dJM_floorModI_7 : decode cJM_floorModI 7 = .ok (.ifCond .ge 11, 3) := by decide +kernel
theorem dJM_floorModI_10 : decode cJM_floorModI 10 = .ok (.iload_n 2, 1) := by decide +kernel
theorem dJM_floorModI_11 : decode cJM_floorModI 11 = .ok (.ifCond .eq 7, 3) := by decide +kernel
theorem dJM_floorModI_14 : decode cJM_floorModI 14 = .ok (.iload_n 2, 1) := by decide +kernel
theorem dJM_floorModI_15 : decode cJM_floorModI 15 = .ok (.iload_n 1, 1) := by decide +kernel
theorem dJM_floorModI_16 : decode cJM_floorModI 16 = .ok (.iadd, 1) := by decide +kernel
theorem dJM_floorModI_17 : decode cJM_floorModI 17 = .ok (.ireturn, 1) := by decide +kernel
theorem dJM_floorModI_18 : decode cJM_floorModI 18 = .ok (.iload_n 2, 1) := by decide +kernel
theorem dJM_floorModI_19 : decode cJM_floorModI 19 = .ok (.ireturn, 1) := by decide +kernel
theorem dJM_floorModJ_0 : decode cJM_floorModJ 0 = .ok (.lload_n 0, 1) := by decide +kernel
theorem dJM_floorModJ_1 : decode cJM_floorModJ 1 = .ok (.lload_n 2, 1) := by decide +kernel
theorem dJM_floorModJ_2 : decode cJM_floorModJ 2 = .ok (.lrem, 1) := by decide +kernel
theorem dJM_floorModJ_3 : decode cJM_floorModJ 3 = .ok (.lstore 4, 2) := by decide +kernel
theorem dJM_floorModJ_5 : decode cJM_floorModJ 5 = .ok (.lload_n 0, 1) := by decide +kernel
theorem dJM_floorModJ_6 : decode cJM_floorModJ 6 = .ok (.lload_n 2, 1) := by decide +kernel
theorem dJM_floorModJ_7 : decode cJM_floorModJ 7 = .ok (.lxor, 1) := by decide +kernel
theorem dJM_floorModJ_8 : decode cJM_floorModJ 8 = .ok (.lconst 0, 1) := by decide +kernel
theorem dJM_floorModJ_9 : decode cJM_floorModJ 9 = .ok (.lcmp, 1) := by decide +kernel
theorem dJM_floorModJ_10 : decode cJM_floorModJ 10 = .ok (.ifCond .ge 15, 3) := by decide +kernel
theorem dJM_floorModJ_13 : decode cJM_floorModJ 13 = .ok (.lload 4, 2) := by decide +kernel
theorem dJM_floorModJ_15 : decode cJM_floorModJ 15 = .ok (.lconst 0, 1) := by decide +kernel
theorem dJM_floorModJ_16 : decode cJM_floorModJ 16 = .ok (.lcmp, 1) := by decide +kernel
theorem dJM_floorModJ_17 : decode cJM_floorModJ 17 = .ok (.ifCond .eq 8, 3) := by decide +kernel
theorem dJM_floorModJ_20 : decode cJM_floorModJ 20 = .ok (.lload 4, 2) := by decide +kernel
theorem dJM_floorModJ_22 : decode cJM_floorModJ 22 = .ok (.lload_n 2, 1) := by decide +kernel
theorem dJM_floorModJ_23 : decode cJM_floorModJ 23 = .ok (.ladd, 1) := by decide +kernel
theorem dJM_floorModJ_24 : decode cJM_floorModJ 24 = .ok (.lreturn, 1) := by decide +kernel
theorem dJM_floorModJ_25 : decode cJM_floorModJ 25 = .ok (.lload 4, 2) := by decide +kernel
theorem dJM_floorModJ_27 : decode cJM_floorModJ 27 = .ok (.lreturn, 1) := by decide +kernel
theorem dJA_fill_0 : decode cJA_fill 0 = .ok (.iconst 0, 1) := by decide +kernel
theorem dJA_fill_1 : decode cJA_fill 1 = .ok (.istore_n 2, 1) := by decide +kernel
theorem dJA_fill_2 : decode cJA_fill 2 = .ok (.aload_n 0, 1) := by decide +kernel
theorem dJA_fill_3 : decode cJA_fill 3 = .ok (.arraylength, 1) := by decide +kernel
theorem dJA_fill_4 : decode cJA_fill 4 = .ok (.istore_n 3, 1) := by decide +kernel
theorem dJA_fill_5 : decode cJA_fill 5 = .ok (.iload_n 2, 1) := by decide +kernel
theorem dJA_fill_6 : decode cJA_fill 6 = .ok (.iload_n 3, 1) := by decide +kernel
theorem dJA_fill_7 : decode cJA_fill 7 = .ok (.if_icmp .ge 13, 3) := by decide +kernel
theorem dJA_fill_10 : decode cJA_fill 10 = .ok (.aload_n 0, 1) := by decide +kernel
theorem dJA_fill_11 : decode cJA_fill 11 = .ok (.iload_n 2, 1) := by decide +kernel
theorem dJA_fill_12 : decode cJA_fill 12 = .ok (.iload_n 1, 1) := by decide +kernel
theorem dJA_fill_13 : decode cJA_fill 13 = .ok (.iastore, 1) := by decide +kernel
theorem dJA_fill_14 : decode cJA_fill 14 = .ok (.iinc 2 1, 3) := by decide +kernel
theorem dJA_fill_17 : decode cJA_fill 17 = .ok (.goto (-12), 3) := by decide +kernel
theorem dJA_fill_20 : decode cJA_fill 20 = .ok (.return_, 1) := by decide +kernel

/-! Decode rows, by wip/whole/tools/decode.py. -/
theorem dX2_init_0 : decode cX2_init 0 = .ok (.aload_n 0, 1) := by decide +kernel
theorem dX2_init_1 : decode cX2_init 1 = .ok (.invokespecial 1, 3) := by decide +kernel
theorem dX2_init_4 : decode cX2_init 4 = .ok (.aload_n 0, 1) := by decide +kernel
theorem dX2_init_5 : decode cX2_init 5 = .ok (.sipush 1100, 3) := by decide +kernel
theorem dX2_init_8 : decode cX2_init 8 = .ok (.newarray .int, 2) := by decide +kernel
theorem dX2_init_10 : decode cX2_init 10 = .ok (.putfield 7, 3) := by decide +kernel
theorem dX2_init_13 : decode cX2_init 13 = .ok (.aload_n 0, 1) := by decide +kernel
theorem dX2_init_14 : decode cX2_init 14 = .ok (.sipush 1100, 3) := by decide +kernel
theorem dX2_init_17 : decode cX2_init 17 = .ok (.newarray .int, 2) := by decide +kernel
theorem dX2_init_19 : decode cX2_init 19 = .ok (.putfield 13, 3) := by decide +kernel
theorem dX2_init_22 : decode cX2_init 22 = .ok (.aload_n 0, 1) := by decide +kernel
theorem dX2_init_23 : decode cX2_init 23 = .ok (.iconst 4, 1) := by decide +kernel
theorem dX2_init_24 : decode cX2_init 24 = .ok (.newarray .int, 2) := by decide +kernel
theorem dX2_init_26 : decode cX2_init 26 = .ok (.putfield 16, 3) := by decide +kernel
theorem dX2_init_29 : decode cX2_init 29 = .ok (.aload_n 0, 1) := by decide +kernel
theorem dX2_init_30 : decode cX2_init 30 = .ok (.sipush 1024, 3) := by decide +kernel
theorem dX2_init_33 : decode cX2_init 33 = .ok (.newarray .int, 2) := by decide +kernel
theorem dX2_init_35 : decode cX2_init 35 = .ok (.putfield 19, 3) := by decide +kernel
theorem dX2_init_38 : decode cX2_init 38 = .ok (.return_, 1) := by decide +kernel
theorem dX2_thrown_0 : decode cX2_thrown 0 = .ok (.aload_n 0, 1) := by decide +kernel
theorem dX2_thrown_1 : decode cX2_thrown 1 = .ok (.getfield 22, 3) := by decide +kernel
theorem dX2_thrown_4 : decode cX2_thrown 4 = .ok (.ireturn, 1) := by decide +kernel
theorem dX2_noRegister_0 : decode cX2_noRegister 0 = .ok (.iload_n 1, 1) := by decide +kernel
theorem dX2_noRegister_1 : decode cX2_noRegister 1 = .ok (.ifCond .lt 8, 3) := by decide +kernel
theorem dX2_noRegister_4 : decode cX2_noRegister 4 = .ok (.iload_n 1, 1) := by decide +kernel
theorem dX2_noRegister_5 : decode cX2_noRegister 5 = .ok (.iconst 3, 1) := by decide +kernel
theorem dX2_noRegister_6 : decode cX2_noRegister 6 = .ok (.if_icmp .le 7, 3) := by decide +kernel
theorem dX2_noRegister_9 : decode cX2_noRegister 9 = .ok (.iconst 1, 1) := by decide +kernel
theorem dX2_noRegister_10 : decode cX2_noRegister 10 = .ok (.goto 4, 3) := by decide +kernel
theorem dX2_noRegister_13 : decode cX2_noRegister 13 = .ok (.iconst 0, 1) := by decide +kernel
theorem dX2_noRegister_14 : decode cX2_noRegister 14 = .ok (.ireturn, 1) := by decide +kernel
theorem dX2_good_0 : decode cX2_good 0 = .ok (.aload_n 0, 1) := by decide +kernel
theorem dX2_good_1 : decode cX2_good 1 = .ok (.iload_n 1, 1) := by decide +kernel
theorem dX2_good_2 : decode cX2_good 2 = .ok (.ifCond .eq 7, 3) := by decide +kernel
theorem dX2_good_5 : decode cX2_good 5 = .ok (.iconst 1, 1) := by decide +kernel
theorem dX2_good_6 : decode cX2_good 6 = .ok (.goto 20, 3) := by decide +kernel
theorem dX2_good_9 : decode cX2_good 9 = .ok (.iload_n 2, 1) := by decide +kernel
theorem dX2_good_10 : decode cX2_good 10 = .ok (.ifCond .eq 7, 3) := by decide +kernel
theorem dX2_good_13 : decode cX2_good 13 = .ok (.iconst 2, 1) := by decide +kernel
theorem dX2_good_14 : decode cX2_good 14 = .ok (.goto 12, 3) := by decide +kernel
theorem dX2_good_17 : decode cX2_good 17 = .ok (.iload_n 3, 1) := by decide +kernel
theorem dX2_good_18 : decode cX2_good 18 = .ok (.ifCond .eq 7, 3) := by decide +kernel
theorem dX2_good_21 : decode cX2_good 21 = .ok (.iconst 3, 1) := by decide +kernel
theorem dX2_good_22 : decode cX2_good 22 = .ok (.goto 4, 3) := by decide +kernel
theorem dX2_good_25 : decode cX2_good 25 = .ok (.iconst 0, 1) := by decide +kernel
theorem dX2_good_26 : decode cX2_good 26 = .ok (.putfield 22, 3) := by decide +kernel
theorem dX2_good_29 : decode cX2_good 29 = .ok (.aload_n 0, 1) := by decide +kernel
theorem dX2_good_30 : decode cX2_good 30 = .ok (.getfield 22, 3) := by decide +kernel
theorem dX2_good_33 : decode cX2_good 33 = .ok (.ifCond .ne 7, 3) := by decide +kernel
theorem dX2_good_36 : decode cX2_good 36 = .ok (.iconst 1, 1) := by decide +kernel
theorem dX2_good_37 : decode cX2_good 37 = .ok (.goto 4, 3) := by decide +kernel
theorem dX2_good_40 : decode cX2_good 40 = .ok (.iconst 0, 1) := by decide +kernel
theorem dX2_good_41 : decode cX2_good 41 = .ok (.ireturn, 1) := by decide +kernel
theorem dX2_prime_0 : decode cX2_prime 0 = .ok (.iload_n 1, 1) := by decide +kernel
theorem dX2_prime_1 : decode cX2_prime 1 = .ok (.iconst 2, 1) := by decide +kernel
theorem dX2_prime_2 : decode cX2_prime 2 = .ok (.if_icmp .lt 7, 3) := by decide +kernel
theorem dX2_prime_5 : decode cX2_prime 5 = .ok (.iconst 1, 1) := by decide +kernel
theorem dX2_prime_6 : decode cX2_prime 6 = .ok (.goto 4, 3) := by decide +kernel
theorem dX2_prime_9 : decode cX2_prime 9 = .ok (.iconst 0, 1) := by decide +kernel
theorem dX2_prime_10 : decode cX2_prime 10 = .ok (.istore_n 2, 1) := by decide +kernel
theorem dX2_prime_11 : decode cX2_prime 11 = .ok (.iconst 2, 1) := by decide +kernel
theorem dX2_prime_12 : decode cX2_prime 12 = .ok (.istore_n 3, 1) := by decide +kernel
theorem dX2_prime_13 : decode cX2_prime 13 = .ok (.iload_n 3, 1) := by decide +kernel
theorem dX2_prime_14 : decode cX2_prime 14 = .ok (.iload_n 3, 1) := by decide +kernel
theorem dX2_prime_15 : decode cX2_prime 15 = .ok (.imul, 1) := by decide +kernel
theorem dX2_prime_16 : decode cX2_prime 16 = .ok (.iload_n 1, 1) := by decide +kernel
theorem dX2_prime_17 : decode cX2_prime 17 = .ok (.if_icmp .gt 25, 3) := by decide +kernel
theorem dX2_prime_20 : decode cX2_prime 20 = .ok (.iload_n 2, 1) := by decide +kernel
theorem dX2_prime_21 : decode cX2_prime 21 = .ok (.ifCond .eq 21, 3) := by decide +kernel
theorem dX2_prime_24 : decode cX2_prime 24 = .ok (.iload_n 1, 1) := by decide +kernel
theorem dX2_prime_25 : decode cX2_prime 25 = .ok (.iload_n 3, 1) := by decide +kernel
theorem dX2_prime_26 : decode cX2_prime 26 = .ok (.irem, 1) := by decide +kernel
theorem dX2_prime_27 : decode cX2_prime 27 = .ok (.ifCond .eq 7, 3) := by decide +kernel
theorem dX2_prime_30 : decode cX2_prime 30 = .ok (.iconst 1, 1) := by decide +kernel
theorem dX2_prime_31 : decode cX2_prime 31 = .ok (.goto 4, 3) := by decide +kernel
theorem dX2_prime_34 : decode cX2_prime 34 = .ok (.iconst 0, 1) := by decide +kernel
theorem dX2_prime_35 : decode cX2_prime 35 = .ok (.istore_n 2, 1) := by decide +kernel
theorem dX2_prime_36 : decode cX2_prime 36 = .ok (.iinc 3 1, 3) := by decide +kernel
theorem dX2_prime_39 : decode cX2_prime 39 = .ok (.goto (-26), 3) := by decide +kernel
theorem dX2_prime_42 : decode cX2_prime 42 = .ok (.iload_n 2, 1) := by decide +kernel
theorem dX2_prime_43 : decode cX2_prime 43 = .ok (.ireturn, 1) := by decide +kernel
theorem dX2_cube_0 : decode cX2_cube 0 = .ok (.iload_n 1, 1) := by decide +kernel
theorem dX2_cube_1 : decode cX2_cube 1 = .ok (.i2l, 1) := by decide +kernel
theorem dX2_cube_2 : decode cX2_cube 2 = .ok (.iload_n 1, 1) := by decide +kernel
theorem dX2_cube_3 : decode cX2_cube 3 = .ok (.i2l, 1) := by decide +kernel
theorem dX2_cube_4 : decode cX2_cube 4 = .ok (.lmul, 1) := by decide +kernel
theorem dX2_cube_5 : decode cX2_cube 5 = .ok (.iload_n 2, 1) := by decide +kernel
theorem dX2_cube_6 : decode cX2_cube 6 = .ok (.i2l, 1) := by decide +kernel
theorem dX2_cube_7 : decode cX2_cube 7 = .ok (.lrem, 1) := by decide +kernel
theorem dX2_cube_8 : decode cX2_cube 8 = .ok (.iload_n 1, 1) := by decide +kernel
theorem dX2_cube_9 : decode cX2_cube 9 = .ok (.i2l, 1) := by decide +kernel
theorem dX2_cube_10 : decode cX2_cube 10 = .ok (.lmul, 1) := by decide +kernel
theorem dX2_cube_11 : decode cX2_cube 11 = .ok (.iload_n 3, 1) := by decide +kernel
theorem dX2_cube_12 : decode cX2_cube 12 = .ok (.i2l, 1) := by decide +kernel
theorem dX2_cube_13 : decode cX2_cube 13 = .ok (.iload_n 1, 1) := by decide +kernel
theorem dX2_cube_14 : decode cX2_cube 14 = .ok (.i2l, 1) := by decide +kernel
theorem dX2_cube_15 : decode cX2_cube 15 = .ok (.lmul, 1) := by decide +kernel
theorem dX2_cube_16 : decode cX2_cube 16 = .ok (.ladd, 1) := by decide +kernel
theorem dX2_cube_17 : decode cX2_cube 17 = .ok (.iload 4, 2) := by decide +kernel
theorem dX2_cube_19 : decode cX2_cube 19 = .ok (.i2l, 1) := by decide +kernel
theorem dX2_cube_20 : decode cX2_cube 20 = .ok (.ladd, 1) := by decide +kernel
theorem dX2_cube_21 : decode cX2_cube 21 = .ok (.lstore 5, 2) := by decide +kernel
theorem dX2_cube_23 : decode cX2_cube 23 = .ok (.lload 5, 2) := by decide +kernel
theorem dX2_cube_25 : decode cX2_cube 25 = .ok (.iload_n 2, 1) := by decide +kernel
theorem dX2_cube_26 : decode cX2_cube 26 = .ok (.i2l, 1) := by decide +kernel
theorem dX2_cube_27 : decode cX2_cube 27 = .ok (.lrem, 1) := by decide +kernel
theorem dX2_cube_28 : decode cX2_cube 28 = .ok (.l2i, 1) := by decide +kernel
theorem dX2_cube_29 : decode cX2_cube 29 = .ok (.ireturn, 1) := by decide +kernel
theorem dX2_count_0 : decode cX2_count 0 = .ok (.iload_n 1, 1) := by decide +kernel
theorem dX2_count_1 : decode cX2_count 1 = .ok (.iconst 5, 1) := by decide +kernel
theorem dX2_count_2 : decode cX2_count 2 = .ok (.if_icmp .lt 36, 3) := by decide +kernel
theorem dX2_count_5 : decode cX2_count 5 = .ok (.iload_n 1, 1) := by decide +kernel
theorem dX2_count_6 : decode cX2_count 6 = .ok (.sipush 1021, 3) := by decide +kernel
theorem dX2_count_9 : decode cX2_count 9 = .ok (.if_icmp .gt 29, 3) := by decide +kernel
theorem dX2_count_12 : decode cX2_count 12 = .ok (.aload_n 0, 1) := by decide +kernel
theorem dX2_count_13 : decode cX2_count 13 = .ok (.iload_n 1, 1) := by decide +kernel
theorem dX2_count_14 : decode cX2_count 14 = .ok (.invokevirtual 26, 3) := by decide +kernel
theorem dX2_count_17 : decode cX2_count 17 = .ok (.ifCond .eq 21, 3) := by decide +kernel
theorem dX2_count_20 : decode cX2_count 20 = .ok (.iload_n 2, 1) := by decide +kernel
theorem dX2_count_21 : decode cX2_count 21 = .ok (.ifCond .lt 17, 3) := by decide +kernel
theorem dX2_count_24 : decode cX2_count 24 = .ok (.iload_n 2, 1) := by decide +kernel
theorem dX2_count_25 : decode cX2_count 25 = .ok (.iload_n 1, 1) := by decide +kernel
theorem dX2_count_26 : decode cX2_count 26 = .ok (.if_icmp .ge 12, 3) := by decide +kernel
theorem dX2_count_29 : decode cX2_count 29 = .ok (.iload_n 3, 1) := by decide +kernel
theorem dX2_count_30 : decode cX2_count 30 = .ok (.ifCond .lt 8, 3) := by decide +kernel
theorem dX2_count_33 : decode cX2_count 33 = .ok (.iload_n 3, 1) := by decide +kernel
theorem dX2_count_34 : decode cX2_count 34 = .ok (.iload_n 1, 1) := by decide +kernel
theorem dX2_count_35 : decode cX2_count 35 = .ok (.if_icmp .lt 5, 3) := by decide +kernel
theorem dX2_count_38 : decode cX2_count 38 = .ok (.iconst 0, 1) := by decide +kernel
theorem dX2_count_39 : decode cX2_count 39 = .ok (.ireturn, 1) := by decide +kernel
theorem dX2_count_40 : decode cX2_count 40 = .ok (.ldc2_w 30, 3) := by decide +kernel
theorem dX2_count_43 : decode cX2_count 43 = .ok (.iload_n 2, 1) := by decide +kernel
theorem dX2_count_44 : decode cX2_count 44 = .ok (.i2l, 1) := by decide +kernel
theorem dX2_count_45 : decode cX2_count 45 = .ok (.lmul, 1) := by decide +kernel
theorem dX2_count_46 : decode cX2_count 46 = .ok (.iload_n 2, 1) := by decide +kernel
theorem dX2_count_47 : decode cX2_count 47 = .ok (.i2l, 1) := by decide +kernel
theorem dX2_count_48 : decode cX2_count 48 = .ok (.lmul, 1) := by decide +kernel
theorem dX2_count_49 : decode cX2_count 49 = .ok (.iload_n 2, 1) := by decide +kernel
theorem dX2_count_50 : decode cX2_count 50 = .ok (.i2l, 1) := by decide +kernel
theorem dX2_count_51 : decode cX2_count 51 = .ok (.lmul, 1) := by decide +kernel
theorem dX2_count_52 : decode cX2_count 52 = .ok (.ldc2_w 32, 3) := by decide +kernel
theorem dX2_count_55 : decode cX2_count 55 = .ok (.iload_n 3, 1) := by decide +kernel
theorem dX2_count_56 : decode cX2_count 56 = .ok (.i2l, 1) := by decide +kernel
theorem dX2_count_57 : decode cX2_count 57 = .ok (.lmul, 1) := by decide +kernel
theorem dX2_count_58 : decode cX2_count 58 = .ok (.iload_n 3, 1) := by decide +kernel
theorem dX2_count_59 : decode cX2_count 59 = .ok (.i2l, 1) := by decide +kernel
theorem dX2_count_60 : decode cX2_count 60 = .ok (.lmul, 1) := by decide +kernel
theorem dX2_count_61 : decode cX2_count 61 = .ok (.ladd, 1) := by decide +kernel
theorem dX2_count_62 : decode cX2_count 62 = .ok (.lstore 4, 2) := by decide +kernel
theorem dX2_count_64 : decode cX2_count 64 = .ok (.lload 4, 2) := by decide +kernel
theorem dX2_count_66 : decode cX2_count 66 = .ok (.iload_n 1, 1) := by decide +kernel
theorem dX2_count_67 : decode cX2_count 67 = .ok (.i2l, 1) := by decide +kernel
theorem dX2_count_68 : decode cX2_count 68 = .ok (.lrem, 1) := by decide +kernel
theorem dX2_count_69 : decode cX2_count 69 = .ok (.lconst 0, 1) := by decide +kernel
theorem dX2_count_70 : decode cX2_count 70 = .ok (.lcmp, 1) := by decide +kernel
theorem dX2_count_71 : decode cX2_count 71 = .ok (.ifCond .ne 5, 3) := by decide +kernel
theorem dX2_count_74 : decode cX2_count 74 = .ok (.iconst 0, 1) := by decide +kernel
theorem dX2_count_75 : decode cX2_count 75 = .ok (.ireturn, 1) := by decide +kernel
theorem dX2_count_76 : decode cX2_count 76 = .ok (.iconst 0, 1) := by decide +kernel
theorem dX2_count_77 : decode cX2_count 77 = .ok (.istore 6, 2) := by decide +kernel
theorem dX2_count_79 : decode cX2_count 79 = .ok (.iload 6, 2) := by decide +kernel
theorem dX2_count_81 : decode cX2_count 81 = .ok (.iload_n 1, 1) := by decide +kernel
theorem dX2_count_82 : decode cX2_count 82 = .ok (.if_icmp .ge 17, 3) := by decide +kernel
theorem dX2_count_85 : decode cX2_count 85 = .ok (.aload_n 0, 1) := by decide +kernel
theorem dX2_count_86 : decode cX2_count 86 = .ok (.getfield 19, 3) := by decide +kernel
theorem dX2_count_89 : decode cX2_count 89 = .ok (.iload 6, 2) := by decide +kernel
theorem dX2_count_91 : decode cX2_count 91 = .ok (.iconst 0, 1) := by decide +kernel
theorem dX2_count_92 : decode cX2_count 92 = .ok (.iastore, 1) := by decide +kernel
theorem dX2_count_93 : decode cX2_count 93 = .ok (.iinc 6 1, 3) := by decide +kernel
theorem dX2_count_96 : decode cX2_count 96 = .ok (.goto (-17), 3) := by decide +kernel
theorem dX2_count_99 : decode cX2_count 99 = .ok (.iconst 0, 1) := by decide +kernel
theorem dX2_count_100 : decode cX2_count 100 = .ok (.istore 6, 2) := by decide +kernel
theorem dX2_count_102 : decode cX2_count 102 = .ok (.iload 6, 2) := by decide +kernel
theorem dX2_count_104 : decode cX2_count 104 = .ok (.iload_n 1, 1) := by decide +kernel
theorem dX2_count_105 : decode cX2_count 105 = .ok (.if_icmp .ge 25, 3) := by decide +kernel
theorem dX2_count_108 : decode cX2_count 108 = .ok (.aload_n 0, 1) := by decide +kernel
theorem dX2_count_109 : decode cX2_count 109 = .ok (.getfield 19, 3) := by decide +kernel
theorem dX2_count_112 : decode cX2_count 112 = .ok (.iload 6, 2) := by decide +kernel
theorem dX2_count_114 : decode cX2_count 114 = .ok (.iload 6, 2) := by decide +kernel
theorem dX2_count_116 : decode cX2_count 116 = .ok (.imul, 1) := by decide +kernel
theorem dX2_count_117 : decode cX2_count 117 = .ok (.iload_n 1, 1) := by decide +kernel
theorem dX2_count_118 : decode cX2_count 118 = .ok (.irem, 1) := by decide +kernel
theorem dX2_count_119 : decode cX2_count 119 = .ok (.dup2, 1) := by decide +kernel
theorem dX2_count_120 : decode cX2_count 120 = .ok (.iaload, 1) := by decide +kernel
theorem dX2_count_121 : decode cX2_count 121 = .ok (.iconst 1, 1) := by decide +kernel
theorem dX2_count_122 : decode cX2_count 122 = .ok (.iadd, 1) := by decide +kernel
theorem dX2_count_123 : decode cX2_count 123 = .ok (.iastore, 1) := by decide +kernel
theorem dX2_count_124 : decode cX2_count 124 = .ok (.iinc 6 1, 3) := by decide +kernel
theorem dX2_count_127 : decode cX2_count 127 = .ok (.goto (-25), 3) := by decide +kernel
theorem dX2_count_130 : decode cX2_count 130 = .ok (.iconst 1, 1) := by decide +kernel
theorem dX2_count_131 : decode cX2_count 131 = .ok (.istore 6, 2) := by decide +kernel
theorem dX2_count_133 : decode cX2_count 133 = .ok (.iconst 0, 1) := by decide +kernel
theorem dX2_count_134 : decode cX2_count 134 = .ok (.istore 7, 2) := by decide +kernel
theorem dX2_count_136 : decode cX2_count 136 = .ok (.iload 7, 2) := by decide +kernel
theorem dX2_count_138 : decode cX2_count 138 = .ok (.iload_n 1, 1) := by decide +kernel
theorem dX2_count_139 : decode cX2_count 139 = .ok (.if_icmp .ge 28, 3) := by decide +kernel
theorem dX2_count_142 : decode cX2_count 142 = .ok (.iload 6, 2) := by decide +kernel
theorem dX2_count_144 : decode cX2_count 144 = .ok (.aload_n 0, 1) := by decide +kernel
theorem dX2_count_145 : decode cX2_count 145 = .ok (.getfield 19, 3) := by decide +kernel
theorem dX2_count_148 : decode cX2_count 148 = .ok (.aload_n 0, 1) := by decide +kernel
theorem dX2_count_149 : decode cX2_count 149 = .ok (.iload 7, 2) := by decide +kernel
theorem dX2_count_151 : decode cX2_count 151 = .ok (.iload_n 1, 1) := by decide +kernel
theorem dX2_count_152 : decode cX2_count 152 = .ok (.iload_n 2, 1) := by decide +kernel
theorem dX2_count_153 : decode cX2_count 153 = .ok (.iload_n 3, 1) := by decide +kernel
theorem dX2_count_154 : decode cX2_count 154 = .ok (.invokevirtual 34, 3) := by decide +kernel
theorem dX2_count_157 : decode cX2_count 157 = .ok (.iaload, 1) := by decide +kernel
theorem dX2_count_158 : decode cX2_count 158 = .ok (.iadd, 1) := by decide +kernel
theorem dX2_count_159 : decode cX2_count 159 = .ok (.istore 6, 2) := by decide +kernel
theorem dX2_count_161 : decode cX2_count 161 = .ok (.iinc 7 1, 3) := by decide +kernel
theorem dX2_count_164 : decode cX2_count 164 = .ok (.goto (-28), 3) := by decide +kernel
theorem dX2_count_167 : decode cX2_count 167 = .ok (.iload 6, 2) := by decide +kernel
theorem dX2_count_169 : decode cX2_count 169 = .ok (.ireturn, 1) := by decide +kernel
theorem dX2_inverse_0 : decode cX2_inverse 0 = .ok (.iconst 1, 1) := by decide +kernel
theorem dX2_inverse_1 : decode cX2_inverse 1 = .ok (.istore_n 3, 1) := by decide +kernel
theorem dX2_inverse_2 : decode cX2_inverse 2 = .ok (.iload_n 3, 1) := by decide +kernel
theorem dX2_inverse_3 : decode cX2_inverse 3 = .ok (.iload_n 2, 1) := by decide +kernel
theorem dX2_inverse_4 : decode cX2_inverse 4 = .ok (.if_icmp .ge 20, 3) := by decide +kernel
theorem dX2_inverse_7 : decode cX2_inverse 7 = .ok (.iload_n 1, 1) := by decide +kernel
theorem dX2_inverse_8 : decode cX2_inverse 8 = .ok (.iload_n 3, 1) := by decide +kernel
theorem dX2_inverse_9 : decode cX2_inverse 9 = .ok (.imul, 1) := by decide +kernel
theorem dX2_inverse_10 : decode cX2_inverse 10 = .ok (.iload_n 2, 1) := by decide +kernel
theorem dX2_inverse_11 : decode cX2_inverse 11 = .ok (.irem, 1) := by decide +kernel
theorem dX2_inverse_12 : decode cX2_inverse 12 = .ok (.iconst 1, 1) := by decide +kernel
theorem dX2_inverse_13 : decode cX2_inverse 13 = .ok (.if_icmp .ne 5, 3) := by decide +kernel
theorem dX2_inverse_16 : decode cX2_inverse 16 = .ok (.iload_n 3, 1) := by decide +kernel
theorem dX2_inverse_17 : decode cX2_inverse 17 = .ok (.ireturn, 1) := by decide +kernel
theorem dX2_inverse_18 : decode cX2_inverse 18 = .ok (.iinc 3 1, 3) := by decide +kernel
theorem dX2_inverse_21 : decode cX2_inverse 21 = .ok (.goto (-19), 3) := by decide +kernel
theorem dX2_inverse_24 : decode cX2_inverse 24 = .ok (.iconst 0, 1) := by decide +kernel
theorem dX2_inverse_25 : decode cX2_inverse 25 = .ok (.ireturn, 1) := by decide +kernel
theorem dX2_add_0 : decode cX2_add 0 = .ok (.iload_n 1, 1) := by decide +kernel
theorem dX2_add_1 : decode cX2_add 1 = .ok (.iload_n 3, 1) := by decide +kernel
theorem dX2_add_2 : decode cX2_add 2 = .ok (.if_icmp .ne 16, 3) := by decide +kernel
theorem dX2_add_5 : decode cX2_add 5 = .ok (.iconst 3, 1) := by decide +kernel
theorem dX2_add_6 : decode cX2_add 6 = .ok (.iload_n 1, 1) := by decide +kernel
theorem dX2_add_7 : decode cX2_add 7 = .ok (.imul, 1) := by decide +kernel
theorem dX2_add_8 : decode cX2_add 8 = .ok (.iload_n 1, 1) := by decide +kernel
theorem dX2_add_9 : decode cX2_add 9 = .ok (.imul, 1) := by decide +kernel
theorem dX2_add_10 : decode cX2_add 10 = .ok (.aload_n 0, 1) := by decide +kernel
theorem dX2_add_11 : decode cX2_add 11 = .ok (.getfield 38, 3) := by decide +kernel
theorem dX2_add_14 : decode cX2_add 14 = .ok (.iadd, 1) := by decide +kernel
theorem dX2_add_15 : decode cX2_add 15 = .ok (.goto 12, 3) := by decide +kernel
theorem dX2_add_18 : decode cX2_add 18 = .ok (.iload 4, 2) := by decide +kernel
theorem dX2_add_20 : decode cX2_add 20 = .ok (.iload_n 2, 1) := by decide +kernel
theorem dX2_add_21 : decode cX2_add 21 = .ok (.isub, 1) := by decide +kernel
theorem dX2_add_22 : decode cX2_add 22 = .ok (.aload_n 0, 1) := by decide +kernel
theorem dX2_add_23 : decode cX2_add 23 = .ok (.getfield 41, 3) := by decide +kernel
theorem dX2_add_26 : decode cX2_add 26 = .ok (.iadd, 1) := by decide +kernel
theorem dX2_add_27 : decode cX2_add 27 = .ok (.istore 5, 2) := by decide +kernel
theorem dX2_add_29 : decode cX2_add 29 = .ok (.iload_n 1, 1) := by decide +kernel
theorem dX2_add_30 : decode cX2_add 30 = .ok (.iload_n 3, 1) := by decide +kernel
theorem dX2_add_31 : decode cX2_add 31 = .ok (.if_icmp .ne 14, 3) := by decide +kernel
theorem dX2_add_34 : decode cX2_add 34 = .ok (.iconst 2, 1) := by decide +kernel
theorem dX2_add_35 : decode cX2_add 35 = .ok (.iload_n 2, 1) := by decide +kernel
theorem dX2_add_36 : decode cX2_add 36 = .ok (.imul, 1) := by decide +kernel
theorem dX2_add_37 : decode cX2_add 37 = .ok (.aload_n 0, 1) := by decide +kernel
theorem dX2_add_38 : decode cX2_add 38 = .ok (.getfield 41, 3) := by decide +kernel
theorem dX2_add_41 : decode cX2_add 41 = .ok (.irem, 1) := by decide +kernel
theorem dX2_add_42 : decode cX2_add 42 = .ok (.goto 16, 3) := by decide +kernel
theorem dX2_add_45 : decode cX2_add 45 = .ok (.iload_n 3, 1) := by decide +kernel
theorem dX2_add_46 : decode cX2_add 46 = .ok (.iload_n 1, 1) := by decide +kernel
theorem dX2_add_47 : decode cX2_add 47 = .ok (.isub, 1) := by decide +kernel
theorem dX2_add_48 : decode cX2_add 48 = .ok (.aload_n 0, 1) := by decide +kernel
theorem dX2_add_49 : decode cX2_add 49 = .ok (.getfield 41, 3) := by decide +kernel
theorem dX2_add_52 : decode cX2_add 52 = .ok (.iadd, 1) := by decide +kernel
theorem dX2_add_53 : decode cX2_add 53 = .ok (.aload_n 0, 1) := by decide +kernel
theorem dX2_add_54 : decode cX2_add 54 = .ok (.getfield 41, 3) := by decide +kernel
theorem dX2_add_57 : decode cX2_add 57 = .ok (.irem, 1) := by decide +kernel
theorem dX2_add_58 : decode cX2_add 58 = .ok (.istore 6, 2) := by decide +kernel
theorem dX2_add_60 : decode cX2_add 60 = .ok (.iload 5, 2) := by decide +kernel
theorem dX2_add_62 : decode cX2_add 62 = .ok (.aload_n 0, 1) := by decide +kernel
theorem dX2_add_63 : decode cX2_add 63 = .ok (.getfield 41, 3) := by decide +kernel
theorem dX2_add_66 : decode cX2_add 66 = .ok (.irem, 1) := by decide +kernel
theorem dX2_add_67 : decode cX2_add 67 = .ok (.aload_n 0, 1) := by decide +kernel
theorem dX2_add_68 : decode cX2_add 68 = .ok (.iload 6, 2) := by decide +kernel
theorem dX2_add_70 : decode cX2_add 70 = .ok (.aload_n 0, 1) := by decide +kernel
theorem dX2_add_71 : decode cX2_add 71 = .ok (.getfield 41, 3) := by decide +kernel
theorem dX2_add_74 : decode cX2_add 74 = .ok (.invokevirtual 44, 3) := by decide +kernel
theorem dX2_add_77 : decode cX2_add 77 = .ok (.imul, 1) := by decide +kernel
theorem dX2_add_78 : decode cX2_add 78 = .ok (.aload_n 0, 1) := by decide +kernel
theorem dX2_add_79 : decode cX2_add 79 = .ok (.getfield 41, 3) := by decide +kernel
theorem dX2_add_82 : decode cX2_add 82 = .ok (.irem, 1) := by decide +kernel
theorem dX2_add_83 : decode cX2_add 83 = .ok (.istore 7, 2) := by decide +kernel
theorem dX2_add_85 : decode cX2_add 85 = .ok (.aload_n 0, 1) := by decide +kernel
theorem dX2_add_86 : decode cX2_add 86 = .ok (.iload 7, 2) := by decide +kernel
theorem dX2_add_88 : decode cX2_add 88 = .ok (.iload 7, 2) := by decide +kernel
theorem dX2_add_90 : decode cX2_add 90 = .ok (.imul, 1) := by decide +kernel
theorem dX2_add_91 : decode cX2_add 91 = .ok (.iconst 2, 1) := by decide +kernel
theorem dX2_add_92 : decode cX2_add 92 = .ok (.aload_n 0, 1) := by decide +kernel
theorem dX2_add_93 : decode cX2_add 93 = .ok (.getfield 41, 3) := by decide +kernel
theorem dX2_add_96 : decode cX2_add 96 = .ok (.imul, 1) := by decide +kernel
theorem dX2_add_97 : decode cX2_add 97 = .ok (.iadd, 1) := by decide +kernel
theorem dX2_add_98 : decode cX2_add 98 = .ok (.iload_n 1, 1) := by decide +kernel
theorem dX2_add_99 : decode cX2_add 99 = .ok (.isub, 1) := by decide +kernel
theorem dX2_add_100 : decode cX2_add 100 = .ok (.iload_n 3, 1) := by decide +kernel
theorem dX2_add_101 : decode cX2_add 101 = .ok (.isub, 1) := by decide +kernel
theorem dX2_add_102 : decode cX2_add 102 = .ok (.aload_n 0, 1) := by decide +kernel
theorem dX2_add_103 : decode cX2_add 103 = .ok (.getfield 41, 3) := by decide +kernel
theorem dX2_add_106 : decode cX2_add 106 = .ok (.irem, 1) := by decide +kernel
theorem dX2_add_107 : decode cX2_add 107 = .ok (.putfield 48, 3) := by decide +kernel
theorem dX2_add_110 : decode cX2_add 110 = .ok (.aload_n 0, 1) := by decide +kernel
theorem dX2_add_111 : decode cX2_add 111 = .ok (.iload 7, 2) := by decide +kernel
theorem dX2_add_113 : decode cX2_add 113 = .ok (.iload_n 1, 1) := by decide +kernel
theorem dX2_add_114 : decode cX2_add 114 = .ok (.aload_n 0, 1) := by decide +kernel
theorem dX2_add_115 : decode cX2_add 115 = .ok (.getfield 48, 3) := by decide +kernel
theorem dX2_add_118 : decode cX2_add 118 = .ok (.isub, 1) := by decide +kernel
theorem dX2_add_119 : decode cX2_add 119 = .ok (.aload_n 0, 1) := by decide +kernel
theorem dX2_add_120 : decode cX2_add 120 = .ok (.getfield 41, 3) := by decide +kernel
theorem dX2_add_123 : decode cX2_add 123 = .ok (.iadd, 1) := by decide +kernel
theorem dX2_add_124 : decode cX2_add 124 = .ok (.imul, 1) := by decide +kernel
theorem dX2_add_125 : decode cX2_add 125 = .ok (.aload_n 0, 1) := by decide +kernel
theorem dX2_add_126 : decode cX2_add 126 = .ok (.getfield 41, 3) := by decide +kernel
theorem dX2_add_129 : decode cX2_add 129 = .ok (.iadd, 1) := by decide +kernel
theorem dX2_add_130 : decode cX2_add 130 = .ok (.iload_n 2, 1) := by decide +kernel
theorem dX2_add_131 : decode cX2_add 131 = .ok (.isub, 1) := by decide +kernel
theorem dX2_add_132 : decode cX2_add 132 = .ok (.aload_n 0, 1) := by decide +kernel
theorem dX2_add_133 : decode cX2_add 133 = .ok (.getfield 41, 3) := by decide +kernel
theorem dX2_add_136 : decode cX2_add 136 = .ok (.irem, 1) := by decide +kernel
theorem dX2_add_137 : decode cX2_add 137 = .ok (.putfield 51, 3) := by decide +kernel
theorem dX2_add_140 : decode cX2_add 140 = .ok (.return_, 1) := by decide +kernel
theorem dX2_curve_0 : decode cX2_curve 0 = .ok (.aload_n 0, 1) := by decide +kernel
theorem dX2_curve_1 : decode cX2_curve 1 = .ok (.iload_n 1, 1) := by decide +kernel
theorem dX2_curve_2 : decode cX2_curve 2 = .ok (.iload_n 2, 1) := by decide +kernel
theorem dX2_curve_3 : decode cX2_curve 3 = .ok (.iload_n 3, 1) := by decide +kernel
theorem dX2_curve_4 : decode cX2_curve 4 = .ok (.invokevirtual 54, 3) := by decide +kernel
theorem dX2_curve_7 : decode cX2_curve 7 = .ok (.istore 4, 2) := by decide +kernel
theorem dX2_curve_9 : decode cX2_curve 9 = .ok (.aload_n 0, 1) := by decide +kernel
theorem dX2_curve_10 : decode cX2_curve 10 = .ok (.iload 4, 2) := by decide +kernel
theorem dX2_curve_12 : decode cX2_curve 12 = .ok (.iconst 3, 1) := by decide +kernel
theorem dX2_curve_13 : decode cX2_curve 13 = .ok (.if_icmp .lt 12, 3) := by decide +kernel
theorem dX2_curve_16 : decode cX2_curve 16 = .ok (.aload_n 0, 1) := by decide +kernel
theorem dX2_curve_17 : decode cX2_curve 17 = .ok (.iload 4, 2) := by decide +kernel
theorem dX2_curve_19 : decode cX2_curve 19 = .ok (.invokevirtual 26, 3) := by decide +kernel
theorem dX2_curve_22 : decode cX2_curve 22 = .ok (.ifCond .ne 7, 3) := by decide +kernel
theorem dX2_curve_25 : decode cX2_curve 25 = .ok (.iconst 1, 1) := by decide +kernel
theorem dX2_curve_26 : decode cX2_curve 26 = .ok (.goto 4, 3) := by decide +kernel
theorem dX2_curve_29 : decode cX2_curve 29 = .ok (.iconst 0, 1) := by decide +kernel
theorem dX2_curve_30 : decode cX2_curve 30 = .ok (.iconst 0, 1) := by decide +kernel
theorem dX2_curve_31 : decode cX2_curve 31 = .ok (.iconst 0, 1) := by decide +kernel
theorem dX2_curve_32 : decode cX2_curve 32 = .ok (.invokevirtual 58, 3) := by decide +kernel
theorem dX2_curve_35 : decode cX2_curve 35 = .ok (.ifCond .ne 5, 3) := by decide +kernel
theorem dX2_curve_38 : decode cX2_curve 38 = .ok (.iconst 0, 1) := by decide +kernel
theorem dX2_curve_39 : decode cX2_curve 39 = .ok (.ireturn, 1) := by decide +kernel
theorem dX2_curve_40 : decode cX2_curve 40 = .ok (.aload_n 0, 1) := by decide +kernel
theorem dX2_curve_41 : decode cX2_curve 41 = .ok (.iload_n 1, 1) := by decide +kernel
theorem dX2_curve_42 : decode cX2_curve 42 = .ok (.putfield 41, 3) := by decide +kernel
theorem dX2_curve_45 : decode cX2_curve 45 = .ok (.aload_n 0, 1) := by decide +kernel
theorem dX2_curve_46 : decode cX2_curve 46 = .ok (.iload_n 2, 1) := by decide +kernel
theorem dX2_curve_47 : decode cX2_curve 47 = .ok (.putfield 38, 3) := by decide +kernel
theorem dX2_curve_50 : decode cX2_curve 50 = .ok (.aload_n 0, 1) := by decide +kernel
theorem dX2_curve_51 : decode cX2_curve 51 = .ok (.iload_n 3, 1) := by decide +kernel
theorem dX2_curve_52 : decode cX2_curve 52 = .ok (.putfield 62, 3) := by decide +kernel
theorem dX2_curve_55 : decode cX2_curve 55 = .ok (.aload_n 0, 1) := by decide +kernel
theorem dX2_curve_56 : decode cX2_curve 56 = .ok (.iload 4, 2) := by decide +kernel
theorem dX2_curve_58 : decode cX2_curve 58 = .ok (.putfield 65, 3) := by decide +kernel
theorem dX2_curve_61 : decode cX2_curve 61 = .ok (.aload_n 0, 1) := by decide +kernel
theorem dX2_curve_62 : decode cX2_curve 62 = .ok (.iconst 0, 1) := by decide +kernel
theorem dX2_curve_63 : decode cX2_curve 63 = .ok (.putfield 68, 3) := by decide +kernel
theorem dX2_curve_66 : decode cX2_curve 66 = .ok (.iconst 0, 1) := by decide +kernel
theorem dX2_curve_67 : decode cX2_curve 67 = .ok (.istore 5, 2) := by decide +kernel
theorem dX2_curve_69 : decode cX2_curve 69 = .ok (.iload 5, 2) := by decide +kernel
theorem dX2_curve_71 : decode cX2_curve 71 = .ok (.iconst 4, 1) := by decide +kernel
theorem dX2_curve_72 : decode cX2_curve 72 = .ok (.if_icmp .ge 17, 3) := by decide +kernel
theorem dX2_curve_75 : decode cX2_curve 75 = .ok (.aload_n 0, 1) := by decide +kernel
theorem dX2_curve_76 : decode cX2_curve 76 = .ok (.getfield 16, 3) := by decide +kernel
theorem dX2_curve_79 : decode cX2_curve 79 = .ok (.iload 5, 2) := by decide +kernel
theorem dX2_curve_81 : decode cX2_curve 81 = .ok (.iconst 0, 1) := by decide +kernel
theorem dX2_curve_82 : decode cX2_curve 82 = .ok (.iastore, 1) := by decide +kernel
theorem dX2_curve_83 : decode cX2_curve 83 = .ok (.iinc 5 1, 3) := by decide +kernel
theorem dX2_curve_86 : decode cX2_curve 86 = .ok (.goto (-17), 3) := by decide +kernel
theorem dX2_curve_89 : decode cX2_curve 89 = .ok (.aload_n 0, 1) := by decide +kernel
theorem dX2_curve_90 : decode cX2_curve 90 = .ok (.invokevirtual 71, 3) := by decide +kernel
theorem dX2_curve_93 : decode cX2_curve 93 = .ok (.iconst 2, 1) := by decide +kernel
theorem dX2_curve_94 : decode cX2_curve 94 = .ok (.istore 5, 2) := by decide +kernel
theorem dX2_curve_96 : decode cX2_curve 96 = .ok (.iload 5, 2) := by decide +kernel
theorem dX2_curve_98 : decode cX2_curve 98 = .ok (.aload_n 0, 1) := by decide +kernel
theorem dX2_curve_99 : decode cX2_curve 99 = .ok (.getfield 65, 3) := by decide +kernel
theorem dX2_curve_102 : decode cX2_curve 102 = .ok (.if_icmp .ge 65, 3) := by decide +kernel
theorem dX2_curve_105 : decode cX2_curve 105 = .ok (.aload_n 0, 1) := by decide +kernel
theorem dX2_curve_106 : decode cX2_curve 106 = .ok (.aload_n 0, 1) := by decide +kernel
theorem dX2_curve_107 : decode cX2_curve 107 = .ok (.getfield 7, 3) := by decide +kernel
theorem dX2_curve_110 : decode cX2_curve 110 = .ok (.iload 5, 2) := by decide +kernel
theorem dX2_curve_112 : decode cX2_curve 112 = .ok (.iconst 1, 1) := by decide +kernel
theorem dX2_curve_113 : decode cX2_curve 113 = .ok (.isub, 1) := by decide +kernel
theorem dX2_curve_114 : decode cX2_curve 114 = .ok (.iaload, 1) := by decide +kernel
theorem dX2_curve_115 : decode cX2_curve 115 = .ok (.aload_n 0, 1) := by decide +kernel
theorem dX2_curve_116 : decode cX2_curve 116 = .ok (.getfield 13, 3) := by decide +kernel
theorem dX2_curve_119 : decode cX2_curve 119 = .ok (.iload 5, 2) := by decide +kernel
theorem dX2_curve_121 : decode cX2_curve 121 = .ok (.iconst 1, 1) := by decide +kernel
theorem dX2_curve_122 : decode cX2_curve 122 = .ok (.isub, 1) := by decide +kernel
theorem dX2_curve_123 : decode cX2_curve 123 = .ok (.iaload, 1) := by decide +kernel
theorem dX2_curve_124 : decode cX2_curve 124 = .ok (.aload_n 0, 1) := by decide +kernel
theorem dX2_curve_125 : decode cX2_curve 125 = .ok (.getfield 7, 3) := by decide +kernel
theorem dX2_curve_128 : decode cX2_curve 128 = .ok (.iconst 1, 1) := by decide +kernel
theorem dX2_curve_129 : decode cX2_curve 129 = .ok (.iaload, 1) := by decide +kernel
theorem dX2_curve_130 : decode cX2_curve 130 = .ok (.aload_n 0, 1) := by decide +kernel
theorem dX2_curve_131 : decode cX2_curve 131 = .ok (.getfield 13, 3) := by decide +kernel
theorem dX2_curve_134 : decode cX2_curve 134 = .ok (.iconst 1, 1) := by decide +kernel
theorem dX2_curve_135 : decode cX2_curve 135 = .ok (.iaload, 1) := by decide +kernel
theorem dX2_curve_136 : decode cX2_curve 136 = .ok (.invokevirtual 74, 3) := by decide +kernel
theorem dX2_curve_139 : decode cX2_curve 139 = .ok (.aload_n 0, 1) := by decide +kernel
theorem dX2_curve_140 : decode cX2_curve 140 = .ok (.getfield 7, 3) := by decide +kernel
theorem dX2_curve_143 : decode cX2_curve 143 = .ok (.iload 5, 2) := by decide +kernel
theorem dX2_curve_145 : decode cX2_curve 145 = .ok (.aload_n 0, 1) := by decide +kernel
theorem dX2_curve_146 : decode cX2_curve 146 = .ok (.getfield 48, 3) := by decide +kernel
theorem dX2_curve_149 : decode cX2_curve 149 = .ok (.iastore, 1) := by decide +kernel
theorem dX2_curve_150 : decode cX2_curve 150 = .ok (.aload_n 0, 1) := by decide +kernel
theorem dX2_curve_151 : decode cX2_curve 151 = .ok (.getfield 13, 3) := by decide +kernel
theorem dX2_curve_154 : decode cX2_curve 154 = .ok (.iload 5, 2) := by decide +kernel
theorem dX2_curve_156 : decode cX2_curve 156 = .ok (.aload_n 0, 1) := by decide +kernel
theorem dX2_curve_157 : decode cX2_curve 157 = .ok (.getfield 51, 3) := by decide +kernel
theorem dX2_curve_160 : decode cX2_curve 160 = .ok (.iastore, 1) := by decide +kernel
theorem dX2_curve_161 : decode cX2_curve 161 = .ok (.iinc 5 1, 3) := by decide +kernel
theorem dX2_curve_164 : decode cX2_curve 164 = .ok (.goto (-68), 3) := by decide +kernel
theorem dX2_curve_167 : decode cX2_curve 167 = .ok (.aload_n 0, 1) := by decide +kernel
theorem dX2_curve_168 : decode cX2_curve 168 = .ok (.getfield 65, 3) := by decide +kernel
theorem dX2_curve_171 : decode cX2_curve 171 = .ok (.ireturn, 1) := by decide +kernel
theorem dX2_findBase_0 : decode cX2_findBase 0 = .ok (.iconst 0, 1) := by decide +kernel
theorem dX2_findBase_1 : decode cX2_findBase 1 = .ok (.istore_n 1, 1) := by decide +kernel
theorem dX2_findBase_2 : decode cX2_findBase 2 = .ok (.iload_n 1, 1) := by decide +kernel
theorem dX2_findBase_3 : decode cX2_findBase 3 = .ok (.aload_n 0, 1) := by decide +kernel
theorem dX2_findBase_4 : decode cX2_findBase 4 = .ok (.getfield 41, 3) := by decide +kernel
theorem dX2_findBase_7 : decode cX2_findBase 7 = .ok (.iconst 1, 1) := by decide +kernel
theorem dX2_findBase_8 : decode cX2_findBase 8 = .ok (.isub, 1) := by decide +kernel
theorem dX2_findBase_9 : decode cX2_findBase 9 = .ok (.if_icmp .ge 34, 3) := by decide +kernel
theorem dX2_findBase_12 : decode cX2_findBase 12 = .ok (.aload_n 0, 1) := by decide +kernel
theorem dX2_findBase_13 : decode cX2_findBase 13 = .ok (.getfield 19, 3) := by decide +kernel
theorem dX2_findBase_16 : decode cX2_findBase 16 = .ok (.aload_n 0, 1) := by decide +kernel
theorem dX2_findBase_17 : decode cX2_findBase 17 = .ok (.iload_n 1, 1) := by decide +kernel
theorem dX2_findBase_18 : decode cX2_findBase 18 = .ok (.aload_n 0, 1) := by decide +kernel
theorem dX2_findBase_19 : decode cX2_findBase 19 = .ok (.getfield 41, 3) := by decide +kernel
theorem dX2_findBase_22 : decode cX2_findBase 22 = .ok (.aload_n 0, 1) := by decide +kernel
theorem dX2_findBase_23 : decode cX2_findBase 23 = .ok (.getfield 38, 3) := by decide +kernel
theorem dX2_findBase_26 : decode cX2_findBase 26 = .ok (.aload_n 0, 1) := by decide +kernel
theorem dX2_findBase_27 : decode cX2_findBase 27 = .ok (.getfield 62, 3) := by decide +kernel
theorem dX2_findBase_30 : decode cX2_findBase 30 = .ok (.invokevirtual 34, 3) := by decide +kernel
theorem dX2_findBase_33 : decode cX2_findBase 33 = .ok (.iaload, 1) := by decide +kernel
theorem dX2_findBase_34 : decode cX2_findBase 34 = .ok (.ifCond .ne 9, 3) := by decide +kernel
theorem dX2_findBase_37 : decode cX2_findBase 37 = .ok (.iinc 1 1, 3) := by decide +kernel
theorem dX2_findBase_40 : decode cX2_findBase 40 = .ok (.goto (-38), 3) := by decide +kernel
theorem dX2_findBase_43 : decode cX2_findBase 43 = .ok (.iconst 0, 1) := by decide +kernel
theorem dX2_findBase_44 : decode cX2_findBase 44 = .ok (.istore_n 2, 1) := by decide +kernel
theorem dX2_findBase_45 : decode cX2_findBase 45 = .ok (.iload_n 2, 1) := by decide +kernel
theorem dX2_findBase_46 : decode cX2_findBase 46 = .ok (.aload_n 0, 1) := by decide +kernel
theorem dX2_findBase_47 : decode cX2_findBase 47 = .ok (.getfield 41, 3) := by decide +kernel
theorem dX2_findBase_50 : decode cX2_findBase 50 = .ok (.iconst 1, 1) := by decide +kernel
theorem dX2_findBase_51 : decode cX2_findBase 51 = .ok (.isub, 1) := by decide +kernel
theorem dX2_findBase_52 : decode cX2_findBase 52 = .ok (.if_icmp .ge 37, 3) := by decide +kernel
theorem dX2_findBase_55 : decode cX2_findBase 55 = .ok (.iload_n 2, 1) := by decide +kernel
theorem dX2_findBase_56 : decode cX2_findBase 56 = .ok (.iload_n 2, 1) := by decide +kernel
theorem dX2_findBase_57 : decode cX2_findBase 57 = .ok (.imul, 1) := by decide +kernel
theorem dX2_findBase_58 : decode cX2_findBase 58 = .ok (.aload_n 0, 1) := by decide +kernel
theorem dX2_findBase_59 : decode cX2_findBase 59 = .ok (.getfield 41, 3) := by decide +kernel
theorem dX2_findBase_62 : decode cX2_findBase 62 = .ok (.irem, 1) := by decide +kernel
theorem dX2_findBase_63 : decode cX2_findBase 63 = .ok (.aload_n 0, 1) := by decide +kernel
theorem dX2_findBase_64 : decode cX2_findBase 64 = .ok (.iload_n 1, 1) := by decide +kernel
theorem dX2_findBase_65 : decode cX2_findBase 65 = .ok (.aload_n 0, 1) := by decide +kernel
theorem dX2_findBase_66 : decode cX2_findBase 66 = .ok (.getfield 41, 3) := by decide +kernel
theorem dX2_findBase_69 : decode cX2_findBase 69 = .ok (.aload_n 0, 1) := by decide +kernel
theorem dX2_findBase_70 : decode cX2_findBase 70 = .ok (.getfield 38, 3) := by decide +kernel
theorem dX2_findBase_73 : decode cX2_findBase 73 = .ok (.aload_n 0, 1) := by decide +kernel
theorem dX2_findBase_74 : decode cX2_findBase 74 = .ok (.getfield 62, 3) := by decide +kernel
theorem dX2_findBase_77 : decode cX2_findBase 77 = .ok (.invokevirtual 34, 3) := by decide +kernel
theorem dX2_findBase_80 : decode cX2_findBase 80 = .ok (.if_icmp .eq 9, 3) := by decide +kernel
theorem dX2_findBase_83 : decode cX2_findBase 83 = .ok (.iinc 2 1, 3) := by decide +kernel
theorem dX2_findBase_86 : decode cX2_findBase 86 = .ok (.goto (-41), 3) := by decide +kernel
theorem dX2_findBase_89 : decode cX2_findBase 89 = .ok (.aload_n 0, 1) := by decide +kernel
theorem dX2_findBase_90 : decode cX2_findBase 90 = .ok (.getfield 7, 3) := by decide +kernel
theorem dX2_findBase_93 : decode cX2_findBase 93 = .ok (.iconst 1, 1) := by decide +kernel
theorem dX2_findBase_94 : decode cX2_findBase 94 = .ok (.iload_n 1, 1) := by decide +kernel
theorem dX2_findBase_95 : decode cX2_findBase 95 = .ok (.iastore, 1) := by decide +kernel
theorem dX2_findBase_96 : decode cX2_findBase 96 = .ok (.aload_n 0, 1) := by decide +kernel
theorem dX2_findBase_97 : decode cX2_findBase 97 = .ok (.getfield 13, 3) := by decide +kernel
theorem dX2_findBase_100 : decode cX2_findBase 100 = .ok (.iconst 1, 1) := by decide +kernel
theorem dX2_findBase_101 : decode cX2_findBase 101 = .ok (.iload_n 2, 1) := by decide +kernel
theorem dX2_findBase_102 : decode cX2_findBase 102 = .ok (.iastore, 1) := by decide +kernel
theorem dX2_findBase_103 : decode cX2_findBase 103 = .ok (.return_, 1) := by decide +kernel
theorem dX2_order_0 : decode cX2_order 0 = .ok (.aload_n 0, 1) := by decide +kernel
theorem dX2_order_1 : decode cX2_order 1 = .ok (.iconst 0, 1) := by decide +kernel
theorem dX2_order_2 : decode cX2_order 2 = .ok (.putfield 22, 3) := by decide +kernel
theorem dX2_order_5 : decode cX2_order 5 = .ok (.aload_n 0, 1) := by decide +kernel
theorem dX2_order_6 : decode cX2_order 6 = .ok (.getfield 65, 3) := by decide +kernel
theorem dX2_order_9 : decode cX2_order 9 = .ok (.ireturn, 1) := by decide +kernel
theorem dX2_find_0 : decode cX2_find 0 = .ok (.iconst 0, 1) := by decide +kernel
theorem dX2_find_1 : decode cX2_find 1 = .ok (.istore_n 3, 1) := by decide +kernel
theorem dX2_find_2 : decode cX2_find 2 = .ok (.iconst 1, 1) := by decide +kernel
theorem dX2_find_3 : decode cX2_find 3 = .ok (.istore 4, 2) := by decide +kernel
theorem dX2_find_5 : decode cX2_find 5 = .ok (.iload 4, 2) := by decide +kernel
theorem dX2_find_7 : decode cX2_find 7 = .ok (.aload_n 0, 1) := by decide +kernel
theorem dX2_find_8 : decode cX2_find 8 = .ok (.getfield 65, 3) := by decide +kernel
theorem dX2_find_11 : decode cX2_find 11 = .ok (.if_icmp .ge 38, 3) := by decide +kernel
theorem dX2_find_14 : decode cX2_find 14 = .ok (.aload_n 0, 1) := by decide +kernel
theorem dX2_find_15 : decode cX2_find 15 = .ok (.getfield 7, 3) := by decide +kernel
theorem dX2_find_18 : decode cX2_find 18 = .ok (.iload 4, 2) := by decide +kernel
theorem dX2_find_20 : decode cX2_find 20 = .ok (.iaload, 1) := by decide +kernel
theorem dX2_find_21 : decode cX2_find 21 = .ok (.iload_n 1, 1) := by decide +kernel
theorem dX2_find_22 : decode cX2_find 22 = .ok (.if_icmp .ne 19, 3) := by decide +kernel
theorem dX2_find_25 : decode cX2_find 25 = .ok (.aload_n 0, 1) := by decide +kernel
theorem dX2_find_26 : decode cX2_find 26 = .ok (.getfield 13, 3) := by decide +kernel
theorem dX2_find_29 : decode cX2_find 29 = .ok (.iload 4, 2) := by decide +kernel
theorem dX2_find_31 : decode cX2_find 31 = .ok (.iaload, 1) := by decide +kernel
theorem dX2_find_32 : decode cX2_find 32 = .ok (.iload_n 2, 1) := by decide +kernel
theorem dX2_find_33 : decode cX2_find 33 = .ok (.if_icmp .ne 8, 3) := by decide +kernel
theorem dX2_find_36 : decode cX2_find 36 = .ok (.iload 4, 2) := by decide +kernel
theorem dX2_find_38 : decode cX2_find 38 = .ok (.goto 4, 3) := by decide +kernel
theorem dX2_find_41 : decode cX2_find 41 = .ok (.iload_n 3, 1) := by decide +kernel
theorem dX2_find_42 : decode cX2_find 42 = .ok (.istore_n 3, 1) := by decide +kernel
theorem dX2_find_43 : decode cX2_find 43 = .ok (.iinc 4 1, 3) := by decide +kernel
theorem dX2_find_46 : decode cX2_find 46 = .ok (.goto (-41), 3) := by decide +kernel
theorem dX2_find_49 : decode cX2_find 49 = .ok (.iload_n 3, 1) := by decide +kernel
theorem dX2_find_50 : decode cX2_find 50 = .ok (.ireturn, 1) := by decide +kernel
theorem dX2_load_0 : decode cX2_load 0 = .ok (.aload_n 0, 1) := by decide +kernel
theorem dX2_load_1 : decode cX2_load 1 = .ok (.iload_n 2, 1) := by decide +kernel
theorem dX2_load_2 : decode cX2_load 2 = .ok (.iload_n 3, 1) := by decide +kernel
theorem dX2_load_3 : decode cX2_load 3 = .ok (.invokevirtual 78, 3) := by decide +kernel
theorem dX2_load_6 : decode cX2_load 6 = .ok (.istore 4, 2) := by decide +kernel
theorem dX2_load_8 : decode cX2_load 8 = .ok (.aload_n 0, 1) := by decide +kernel
theorem dX2_load_9 : decode cX2_load 9 = .ok (.aload_n 0, 1) := by decide +kernel
theorem dX2_load_10 : decode cX2_load 10 = .ok (.getfield 65, 3) := by decide +kernel
theorem dX2_load_13 : decode cX2_load 13 = .ok (.ifCond .ne 7, 3) := by decide +kernel
theorem dX2_load_16 : decode cX2_load 16 = .ok (.iconst 1, 1) := by decide +kernel
theorem dX2_load_17 : decode cX2_load 17 = .ok (.goto 4, 3) := by decide +kernel
theorem dX2_load_20 : decode cX2_load 20 = .ok (.iconst 0, 1) := by decide +kernel
theorem dX2_load_21 : decode cX2_load 21 = .ok (.aload_n 0, 1) := by decide +kernel
theorem dX2_load_22 : decode cX2_load 22 = .ok (.iload_n 1, 1) := by decide +kernel
theorem dX2_load_23 : decode cX2_load 23 = .ok (.invokevirtual 81, 3) := by decide +kernel
theorem dX2_load_26 : decode cX2_load 26 = .ok (.iload 4, 2) := by decide +kernel
theorem dX2_load_28 : decode cX2_load 28 = .ok (.ifCond .ne 7, 3) := by decide +kernel
theorem dX2_load_31 : decode cX2_load 31 = .ok (.iconst 1, 1) := by decide +kernel
theorem dX2_load_32 : decode cX2_load 32 = .ok (.goto 4, 3) := by decide +kernel
theorem dX2_load_35 : decode cX2_load 35 = .ok (.iconst 0, 1) := by decide +kernel
theorem dX2_load_36 : decode cX2_load 36 = .ok (.invokevirtual 58, 3) := by decide +kernel
theorem dX2_load_39 : decode cX2_load 39 = .ok (.ifCond .eq 11, 3) := by decide +kernel
theorem dX2_load_42 : decode cX2_load 42 = .ok (.aload_n 0, 1) := by decide +kernel
theorem dX2_load_43 : decode cX2_load 43 = .ok (.getfield 16, 3) := by decide +kernel
theorem dX2_load_46 : decode cX2_load 46 = .ok (.iload_n 1, 1) := by decide +kernel
theorem dX2_load_47 : decode cX2_load 47 = .ok (.iload 4, 2) := by decide +kernel
theorem dX2_load_49 : decode cX2_load 49 = .ok (.iastore, 1) := by decide +kernel
theorem dX2_load_50 : decode cX2_load 50 = .ok (.return_, 1) := by decide +kernel
theorem dX2_base_0 : decode cX2_base 0 = .ok (.aload_n 0, 1) := by decide +kernel
theorem dX2_base_1 : decode cX2_base 1 = .ok (.aload_n 0, 1) := by decide +kernel
theorem dX2_base_2 : decode cX2_base 2 = .ok (.getfield 65, 3) := by decide +kernel
theorem dX2_base_5 : decode cX2_base 5 = .ok (.ifCond .ne 7, 3) := by decide +kernel
theorem dX2_base_8 : decode cX2_base 8 = .ok (.iconst 1, 1) := by decide +kernel
theorem dX2_base_9 : decode cX2_base 9 = .ok (.goto 4, 3) := by decide +kernel
theorem dX2_base_12 : decode cX2_base 12 = .ok (.iconst 0, 1) := by decide +kernel
theorem dX2_base_13 : decode cX2_base 13 = .ok (.aload_n 0, 1) := by decide +kernel
theorem dX2_base_14 : decode cX2_base 14 = .ok (.iload_n 1, 1) := by decide +kernel
theorem dX2_base_15 : decode cX2_base 15 = .ok (.invokevirtual 81, 3) := by decide +kernel
theorem dX2_base_18 : decode cX2_base 18 = .ok (.iconst 0, 1) := by decide +kernel
theorem dX2_base_19 : decode cX2_base 19 = .ok (.invokevirtual 58, 3) := by decide +kernel
theorem dX2_base_22 : decode cX2_base 22 = .ok (.ifCond .eq 10, 3) := by decide +kernel
theorem dX2_base_25 : decode cX2_base 25 = .ok (.aload_n 0, 1) := by decide +kernel
theorem dX2_base_26 : decode cX2_base 26 = .ok (.getfield 16, 3) := by decide +kernel
theorem dX2_base_29 : decode cX2_base 29 = .ok (.iload_n 1, 1) := by decide +kernel
theorem dX2_base_30 : decode cX2_base 30 = .ok (.iconst 1, 1) := by decide +kernel
theorem dX2_base_31 : decode cX2_base 31 = .ok (.iastore, 1) := by decide +kernel
theorem dX2_base_32 : decode cX2_base 32 = .ok (.return_, 1) := by decide +kernel
theorem dX2_sum_0 : decode cX2_sum 0 = .ok (.aload_n 0, 1) := by decide +kernel
theorem dX2_sum_1 : decode cX2_sum 1 = .ok (.aload_n 0, 1) := by decide +kernel
theorem dX2_sum_2 : decode cX2_sum 2 = .ok (.getfield 65, 3) := by decide +kernel
theorem dX2_sum_5 : decode cX2_sum 5 = .ok (.ifCond .ne 7, 3) := by decide +kernel
theorem dX2_sum_8 : decode cX2_sum 8 = .ok (.iconst 1, 1) := by decide +kernel
theorem dX2_sum_9 : decode cX2_sum 9 = .ok (.goto 4, 3) := by decide +kernel
theorem dX2_sum_12 : decode cX2_sum 12 = .ok (.iconst 0, 1) := by decide +kernel
theorem dX2_sum_13 : decode cX2_sum 13 = .ok (.aload_n 0, 1) := by decide +kernel
theorem dX2_sum_14 : decode cX2_sum 14 = .ok (.iload_n 1, 1) := by decide +kernel
theorem dX2_sum_15 : decode cX2_sum 15 = .ok (.invokevirtual 81, 3) := by decide +kernel
theorem dX2_sum_18 : decode cX2_sum 18 = .ok (.ifCond .ne 19, 3) := by decide +kernel
theorem dX2_sum_21 : decode cX2_sum 21 = .ok (.aload_n 0, 1) := by decide +kernel
theorem dX2_sum_22 : decode cX2_sum 22 = .ok (.iload_n 2, 1) := by decide +kernel
theorem dX2_sum_23 : decode cX2_sum 23 = .ok (.invokevirtual 81, 3) := by decide +kernel
theorem dX2_sum_26 : decode cX2_sum 26 = .ok (.ifCond .ne 11, 3) := by decide +kernel
theorem dX2_sum_29 : decode cX2_sum 29 = .ok (.aload_n 0, 1) := by decide +kernel
theorem dX2_sum_30 : decode cX2_sum 30 = .ok (.iload_n 3, 1) := by decide +kernel
theorem dX2_sum_31 : decode cX2_sum 31 = .ok (.invokevirtual 81, 3) := by decide +kernel
theorem dX2_sum_34 : decode cX2_sum 34 = .ok (.ifCond .eq 7, 3) := by decide +kernel
theorem dX2_sum_37 : decode cX2_sum 37 = .ok (.iconst 1, 1) := by decide +kernel
theorem dX2_sum_38 : decode cX2_sum 38 = .ok (.goto 4, 3) := by decide +kernel
theorem dX2_sum_41 : decode cX2_sum 41 = .ok (.iconst 0, 1) := by decide +kernel
theorem dX2_sum_42 : decode cX2_sum 42 = .ok (.iconst 0, 1) := by decide +kernel
theorem dX2_sum_43 : decode cX2_sum 43 = .ok (.invokevirtual 58, 3) := by decide +kernel
theorem dX2_sum_46 : decode cX2_sum 46 = .ok (.ifCond .eq 27, 3) := by decide +kernel
theorem dX2_sum_49 : decode cX2_sum 49 = .ok (.aload_n 0, 1) := by decide +kernel
theorem dX2_sum_50 : decode cX2_sum 50 = .ok (.getfield 16, 3) := by decide +kernel
theorem dX2_sum_53 : decode cX2_sum 53 = .ok (.iload_n 1, 1) := by decide +kernel
theorem dX2_sum_54 : decode cX2_sum 54 = .ok (.aload_n 0, 1) := by decide +kernel
theorem dX2_sum_55 : decode cX2_sum 55 = .ok (.getfield 16, 3) := by decide +kernel
theorem dX2_sum_58 : decode cX2_sum 58 = .ok (.iload_n 2, 1) := by decide +kernel
theorem dX2_sum_59 : decode cX2_sum 59 = .ok (.iaload, 1) := by decide +kernel
theorem dX2_sum_60 : decode cX2_sum 60 = .ok (.aload_n 0, 1) := by decide +kernel
theorem dX2_sum_61 : decode cX2_sum 61 = .ok (.getfield 16, 3) := by decide +kernel
theorem dX2_sum_64 : decode cX2_sum 64 = .ok (.iload_n 3, 1) := by decide +kernel
theorem dX2_sum_65 : decode cX2_sum 65 = .ok (.iaload, 1) := by decide +kernel
theorem dX2_sum_66 : decode cX2_sum 66 = .ok (.iadd, 1) := by decide +kernel
theorem dX2_sum_67 : decode cX2_sum 67 = .ok (.aload_n 0, 1) := by decide +kernel
theorem dX2_sum_68 : decode cX2_sum 68 = .ok (.getfield 65, 3) := by decide +kernel
theorem dX2_sum_71 : decode cX2_sum 71 = .ok (.irem, 1) := by decide +kernel
theorem dX2_sum_72 : decode cX2_sum 72 = .ok (.iastore, 1) := by decide +kernel
theorem dX2_sum_73 : decode cX2_sum 73 = .ok (.return_, 1) := by decide +kernel
theorem dX2_modulo_0 : decode cX2_modulo 0 = .ok (.lload_n 1, 1) := by decide +kernel
theorem dX2_modulo_1 : decode cX2_modulo 1 = .ok (.aload_n 0, 1) := by decide +kernel
theorem dX2_modulo_2 : decode cX2_modulo 2 = .ok (.getfield 65, 3) := by decide +kernel
theorem dX2_modulo_5 : decode cX2_modulo 5 = .ok (.i2l, 1) := by decide +kernel
theorem dX2_modulo_6 : decode cX2_modulo 6 = .ok (.lrem, 1) := by decide +kernel
theorem dX2_modulo_7 : decode cX2_modulo 7 = .ok (.lstore_n 3, 1) := by decide +kernel
theorem dX2_modulo_8 : decode cX2_modulo 8 = .ok (.lload_n 3, 1) := by decide +kernel
theorem dX2_modulo_9 : decode cX2_modulo 9 = .ok (.lconst 0, 1) := by decide +kernel
theorem dX2_modulo_10 : decode cX2_modulo 10 = .ok (.lcmp, 1) := by decide +kernel
theorem dX2_modulo_11 : decode cX2_modulo 11 = .ok (.ifCond .ge 13, 3) := by decide +kernel
theorem dX2_modulo_14 : decode cX2_modulo 14 = .ok (.lload_n 3, 1) := by decide +kernel
theorem dX2_modulo_15 : decode cX2_modulo 15 = .ok (.aload_n 0, 1) := by decide +kernel
theorem dX2_modulo_16 : decode cX2_modulo 16 = .ok (.getfield 65, 3) := by decide +kernel
theorem dX2_modulo_19 : decode cX2_modulo 19 = .ok (.i2l, 1) := by decide +kernel
theorem dX2_modulo_20 : decode cX2_modulo 20 = .ok (.ladd, 1) := by decide +kernel
theorem dX2_modulo_21 : decode cX2_modulo 21 = .ok (.goto 4, 3) := by decide +kernel
theorem dX2_modulo_24 : decode cX2_modulo 24 = .ok (.lload_n 3, 1) := by decide +kernel
theorem dX2_modulo_25 : decode cX2_modulo 25 = .ok (.l2i, 1) := by decide +kernel
theorem dX2_modulo_26 : decode cX2_modulo 26 = .ok (.ireturn, 1) := by decide +kernel
theorem dX2_times_0 : decode cX2_times 0 = .ok (.aload_n 0, 1) := by decide +kernel
theorem dX2_times_1 : decode cX2_times 1 = .ok (.aload_n 0, 1) := by decide +kernel
theorem dX2_times_2 : decode cX2_times 2 = .ok (.getfield 65, 3) := by decide +kernel
theorem dX2_times_5 : decode cX2_times 5 = .ok (.ifCond .ne 7, 3) := by decide +kernel
theorem dX2_times_8 : decode cX2_times 8 = .ok (.iconst 1, 1) := by decide +kernel
theorem dX2_times_9 : decode cX2_times 9 = .ok (.goto 4, 3) := by decide +kernel
theorem dX2_times_12 : decode cX2_times 12 = .ok (.iconst 0, 1) := by decide +kernel
theorem dX2_times_13 : decode cX2_times 13 = .ok (.aload_n 0, 1) := by decide +kernel
theorem dX2_times_14 : decode cX2_times 14 = .ok (.iload_n 1, 1) := by decide +kernel
theorem dX2_times_15 : decode cX2_times 15 = .ok (.invokevirtual 81, 3) := by decide +kernel
theorem dX2_times_18 : decode cX2_times 18 = .ok (.ifCond .ne 11, 3) := by decide +kernel
theorem dX2_times_21 : decode cX2_times 21 = .ok (.aload_n 0, 1) := by decide +kernel
theorem dX2_times_22 : decode cX2_times 22 = .ok (.iload_n 3, 1) := by decide +kernel
theorem dX2_times_23 : decode cX2_times 23 = .ok (.invokevirtual 81, 3) := by decide +kernel
theorem dX2_times_26 : decode cX2_times 26 = .ok (.ifCond .eq 7, 3) := by decide +kernel
theorem dX2_times_29 : decode cX2_times 29 = .ok (.iconst 1, 1) := by decide +kernel
theorem dX2_times_30 : decode cX2_times 30 = .ok (.goto 4, 3) := by decide +kernel
theorem dX2_times_33 : decode cX2_times 33 = .ok (.iconst 0, 1) := by decide +kernel
theorem dX2_times_34 : decode cX2_times 34 = .ok (.iconst 0, 1) := by decide +kernel
theorem dX2_times_35 : decode cX2_times 35 = .ok (.invokevirtual 58, 3) := by decide +kernel
theorem dX2_times_38 : decode cX2_times 38 = .ok (.ifCond .eq 27, 3) := by decide +kernel
theorem dX2_times_41 : decode cX2_times 41 = .ok (.aload_n 0, 1) := by decide +kernel
theorem dX2_times_42 : decode cX2_times 42 = .ok (.getfield 16, 3) := by decide +kernel
theorem dX2_times_45 : decode cX2_times 45 = .ok (.iload_n 1, 1) := by decide +kernel
theorem dX2_times_46 : decode cX2_times 46 = .ok (.aload_n 0, 1) := by decide +kernel
theorem dX2_times_47 : decode cX2_times 47 = .ok (.iload_n 2, 1) := by decide +kernel
theorem dX2_times_48 : decode cX2_times 48 = .ok (.i2l, 1) := by decide +kernel
theorem dX2_times_49 : decode cX2_times 49 = .ok (.invokevirtual 84, 3) := by decide +kernel
theorem dX2_times_52 : decode cX2_times 52 = .ok (.aload_n 0, 1) := by decide +kernel
theorem dX2_times_53 : decode cX2_times 53 = .ok (.getfield 16, 3) := by decide +kernel
theorem dX2_times_56 : decode cX2_times 56 = .ok (.iload_n 3, 1) := by decide +kernel
theorem dX2_times_57 : decode cX2_times 57 = .ok (.iaload, 1) := by decide +kernel
theorem dX2_times_58 : decode cX2_times 58 = .ok (.imul, 1) := by decide +kernel
theorem dX2_times_59 : decode cX2_times 59 = .ok (.aload_n 0, 1) := by decide +kernel
theorem dX2_times_60 : decode cX2_times 60 = .ok (.getfield 65, 3) := by decide +kernel
theorem dX2_times_63 : decode cX2_times 63 = .ok (.irem, 1) := by decide +kernel
theorem dX2_times_64 : decode cX2_times 64 = .ok (.iastore, 1) := by decide +kernel
theorem dX2_times_65 : decode cX2_times 65 = .ok (.return_, 1) := by decide +kernel
theorem dX2_x_0 : decode cX2_x 0 = .ok (.aload_n 0, 1) := by decide +kernel
theorem dX2_x_1 : decode cX2_x 1 = .ok (.aload_n 0, 1) := by decide +kernel
theorem dX2_x_2 : decode cX2_x 2 = .ok (.iload_n 1, 1) := by decide +kernel
theorem dX2_x_3 : decode cX2_x 3 = .ok (.invokevirtual 81, 3) := by decide +kernel
theorem dX2_x_6 : decode cX2_x 6 = .ok (.iconst 0, 1) := by decide +kernel
theorem dX2_x_7 : decode cX2_x 7 = .ok (.iconst 0, 1) := by decide +kernel
theorem dX2_x_8 : decode cX2_x 8 = .ok (.invokevirtual 58, 3) := by decide +kernel
theorem dX2_x_11 : decode cX2_x 11 = .ok (.ifCond .ne 5, 3) := by decide +kernel
theorem dX2_x_14 : decode cX2_x 14 = .ok (.iconst 0, 1) := by decide +kernel
theorem dX2_x_15 : decode cX2_x 15 = .ok (.ireturn, 1) := by decide +kernel
theorem dX2_x_16 : decode cX2_x 16 = .ok (.aload_n 0, 1) := by decide +kernel
theorem dX2_x_17 : decode cX2_x 17 = .ok (.getfield 16, 3) := by decide +kernel
theorem dX2_x_20 : decode cX2_x 20 = .ok (.iload_n 1, 1) := by decide +kernel
theorem dX2_x_21 : decode cX2_x 21 = .ok (.iaload, 1) := by decide +kernel
theorem dX2_x_22 : decode cX2_x 22 = .ok (.ifCond .ne 7, 3) := by decide +kernel
theorem dX2_x_25 : decode cX2_x 25 = .ok (.iconst (-1), 1) := by decide +kernel
theorem dX2_x_26 : decode cX2_x 26 = .ok (.goto 14, 3) := by decide +kernel
theorem dX2_x_29 : decode cX2_x 29 = .ok (.aload_n 0, 1) := by decide +kernel
theorem dX2_x_30 : decode cX2_x 30 = .ok (.getfield 7, 3) := by decide +kernel
theorem dX2_x_33 : decode cX2_x 33 = .ok (.aload_n 0, 1) := by decide +kernel
theorem dX2_x_34 : decode cX2_x 34 = .ok (.getfield 16, 3) := by decide +kernel
theorem dX2_x_37 : decode cX2_x 37 = .ok (.iload_n 1, 1) := by decide +kernel
theorem dX2_x_38 : decode cX2_x 38 = .ok (.iaload, 1) := by decide +kernel
theorem dX2_x_39 : decode cX2_x 39 = .ok (.iaload, 1) := by decide +kernel
theorem dX2_x_40 : decode cX2_x 40 = .ok (.ireturn, 1) := by decide +kernel
theorem dX2_y_0 : decode cX2_y 0 = .ok (.aload_n 0, 1) := by decide +kernel
theorem dX2_y_1 : decode cX2_y 1 = .ok (.aload_n 0, 1) := by decide +kernel
theorem dX2_y_2 : decode cX2_y 2 = .ok (.iload_n 1, 1) := by decide +kernel
theorem dX2_y_3 : decode cX2_y 3 = .ok (.invokevirtual 81, 3) := by decide +kernel
theorem dX2_y_6 : decode cX2_y 6 = .ok (.iconst 0, 1) := by decide +kernel
theorem dX2_y_7 : decode cX2_y 7 = .ok (.iconst 0, 1) := by decide +kernel
theorem dX2_y_8 : decode cX2_y 8 = .ok (.invokevirtual 58, 3) := by decide +kernel
theorem dX2_y_11 : decode cX2_y 11 = .ok (.ifCond .ne 5, 3) := by decide +kernel
theorem dX2_y_14 : decode cX2_y 14 = .ok (.iconst 0, 1) := by decide +kernel
theorem dX2_y_15 : decode cX2_y 15 = .ok (.ireturn, 1) := by decide +kernel
theorem dX2_y_16 : decode cX2_y 16 = .ok (.aload_n 0, 1) := by decide +kernel
theorem dX2_y_17 : decode cX2_y 17 = .ok (.getfield 16, 3) := by decide +kernel
theorem dX2_y_20 : decode cX2_y 20 = .ok (.iload_n 1, 1) := by decide +kernel
theorem dX2_y_21 : decode cX2_y 21 = .ok (.iaload, 1) := by decide +kernel
theorem dX2_y_22 : decode cX2_y 22 = .ok (.ifCond .ne 7, 3) := by decide +kernel
theorem dX2_y_25 : decode cX2_y 25 = .ok (.iconst (-1), 1) := by decide +kernel
theorem dX2_y_26 : decode cX2_y 26 = .ok (.goto 14, 3) := by decide +kernel
theorem dX2_y_29 : decode cX2_y 29 = .ok (.aload_n 0, 1) := by decide +kernel
theorem dX2_y_30 : decode cX2_y 30 = .ok (.getfield 13, 3) := by decide +kernel
theorem dX2_y_33 : decode cX2_y 33 = .ok (.aload_n 0, 1) := by decide +kernel
theorem dX2_y_34 : decode cX2_y 34 = .ok (.getfield 16, 3) := by decide +kernel
theorem dX2_y_37 : decode cX2_y 37 = .ok (.iload_n 1, 1) := by decide +kernel
theorem dX2_y_38 : decode cX2_y 38 = .ok (.iaload, 1) := by decide +kernel
theorem dX2_y_39 : decode cX2_y 39 = .ok (.iaload, 1) := by decide +kernel
theorem dX2_y_40 : decode cX2_y 40 = .ok (.ireturn, 1) := by decide +kernel
theorem dX2_bytesOf_0 : decode cX2_bytesOf 0 = .ok (.iload_n 1, 1) := by decide +kernel
theorem dX2_bytesOf_1 : decode cX2_bytesOf 1 = .ok (.ifCond .ne 5, 3) := by decide +kernel
theorem dX2_bytesOf_4 : decode cX2_bytesOf 4 = .ok (.lconst 0, 1) := by decide +kernel
theorem dX2_bytesOf_5 : decode cX2_bytesOf 5 = .ok (.lreturn, 1) := by decide +kernel
theorem dX2_bytesOf_6 : decode cX2_bytesOf 6 = .ok (.iload_n 2, 1) := by decide +kernel
theorem dX2_bytesOf_7 : decode cX2_bytesOf 7 = .ok (.ifCond .eq 29, 3) := by decide +kernel
theorem dX2_bytesOf_10 : decode cX2_bytesOf 10 = .ok (.ldc2_w 88, 3) := by decide +kernel
theorem dX2_bytesOf_13 : decode cX2_bytesOf 13 = .ok (.aload_n 0, 1) := by decide +kernel
theorem dX2_bytesOf_14 : decode cX2_bytesOf 14 = .ok (.getfield 13, 3) := by decide +kernel
theorem dX2_bytesOf_17 : decode cX2_bytesOf 17 = .ok (.iload_n 1, 1) := by decide +kernel
theorem dX2_bytesOf_18 : decode cX2_bytesOf 18 = .ok (.iaload, 1) := by decide +kernel
theorem dX2_bytesOf_19 : decode cX2_bytesOf 19 = .ok (.iconst 2, 1) := by decide +kernel
theorem dX2_bytesOf_20 : decode cX2_bytesOf 20 = .ok (.irem, 1) := by decide +kernel
theorem dX2_bytesOf_21 : decode cX2_bytesOf 21 = .ok (.i2l, 1) := by decide +kernel
theorem dX2_bytesOf_22 : decode cX2_bytesOf 22 = .ok (.ladd, 1) := by decide +kernel
theorem dX2_bytesOf_23 : decode cX2_bytesOf 23 = .ok (.ldc2_w 90, 3) := by decide +kernel
theorem dX2_bytesOf_26 : decode cX2_bytesOf 26 = .ok (.lmul, 1) := by decide +kernel
theorem dX2_bytesOf_27 : decode cX2_bytesOf 27 = .ok (.aload_n 0, 1) := by decide +kernel
theorem dX2_bytesOf_28 : decode cX2_bytesOf 28 = .ok (.getfield 7, 3) := by decide +kernel
theorem dX2_bytesOf_31 : decode cX2_bytesOf 31 = .ok (.iload_n 1, 1) := by decide +kernel
theorem dX2_bytesOf_32 : decode cX2_bytesOf 32 = .ok (.iaload, 1) := by decide +kernel
theorem dX2_bytesOf_33 : decode cX2_bytesOf 33 = .ok (.i2l, 1) := by decide +kernel
theorem dX2_bytesOf_34 : decode cX2_bytesOf 34 = .ok (.ladd, 1) := by decide +kernel
theorem dX2_bytesOf_35 : decode cX2_bytesOf 35 = .ok (.lreturn, 1) := by decide +kernel
theorem dX2_bytesOf_36 : decode cX2_bytesOf 36 = .ok (.ldc2_w 92, 3) := by decide +kernel
theorem dX2_bytesOf_39 : decode cX2_bytesOf 39 = .ok (.aload_n 0, 1) := by decide +kernel
theorem dX2_bytesOf_40 : decode cX2_bytesOf 40 = .ok (.getfield 7, 3) := by decide +kernel
theorem dX2_bytesOf_43 : decode cX2_bytesOf 43 = .ok (.iload_n 1, 1) := by decide +kernel
theorem dX2_bytesOf_44 : decode cX2_bytesOf 44 = .ok (.iaload, 1) := by decide +kernel
theorem dX2_bytesOf_45 : decode cX2_bytesOf 45 = .ok (.i2l, 1) := by decide +kernel
theorem dX2_bytesOf_46 : decode cX2_bytesOf 46 = .ok (.ldc2_w 90, 3) := by decide +kernel
theorem dX2_bytesOf_49 : decode cX2_bytesOf 49 = .ok (.lmul, 1) := by decide +kernel
theorem dX2_bytesOf_50 : decode cX2_bytesOf 50 = .ok (.ladd, 1) := by decide +kernel
theorem dX2_bytesOf_51 : decode cX2_bytesOf 51 = .ok (.aload_n 0, 1) := by decide +kernel
theorem dX2_bytesOf_52 : decode cX2_bytesOf 52 = .ok (.getfield 13, 3) := by decide +kernel
theorem dX2_bytesOf_55 : decode cX2_bytesOf 55 = .ok (.iload_n 1, 1) := by decide +kernel
theorem dX2_bytesOf_56 : decode cX2_bytesOf 56 = .ok (.iaload, 1) := by decide +kernel
theorem dX2_bytesOf_57 : decode cX2_bytesOf 57 = .ok (.i2l, 1) := by decide +kernel
theorem dX2_bytesOf_58 : decode cX2_bytesOf 58 = .ok (.ladd, 1) := by decide +kernel
theorem dX2_bytesOf_59 : decode cX2_bytesOf 59 = .ok (.lreturn, 1) := by decide +kernel
theorem dX2_read_0 : decode cX2_read 0 = .ok (.iload_n 1, 1) := by decide +kernel
theorem dX2_read_1 : decode cX2_read 1 = .ok (.iconst 1, 1) := by decide +kernel
theorem dX2_read_2 : decode cX2_read 2 = .ok (.if_icmp .ne 15, 3) := by decide +kernel
theorem dX2_read_5 : decode cX2_read 5 = .ok (.lload_n 2, 1) := by decide +kernel
theorem dX2_read_6 : decode cX2_read 6 = .ok (.lconst 0, 1) := by decide +kernel
theorem dX2_read_7 : decode cX2_read 7 = .ok (.lcmp, 1) := by decide +kernel
theorem dX2_read_8 : decode cX2_read 8 = .ok (.ifCond .ne 7, 3) := by decide +kernel
theorem dX2_read_11 : decode cX2_read 11 = .ok (.iconst 0, 1) := by decide +kernel
theorem dX2_read_12 : decode cX2_read 12 = .ok (.goto 4, 3) := by decide +kernel
theorem dX2_read_15 : decode cX2_read 15 = .ok (.iconst (-1), 1) := by decide +kernel
theorem dX2_read_16 : decode cX2_read 16 = .ok (.ireturn, 1) := by decide +kernel
theorem dX2_read_17 : decode cX2_read 17 = .ok (.iconst (-1), 1) := by decide +kernel
theorem dX2_read_18 : decode cX2_read 18 = .ok (.istore 4, 2) := by decide +kernel
theorem dX2_read_20 : decode cX2_read 20 = .ok (.iconst 1, 1) := by decide +kernel
theorem dX2_read_21 : decode cX2_read 21 = .ok (.istore 5, 2) := by decide +kernel
theorem dX2_read_23 : decode cX2_read 23 = .ok (.iload 5, 2) := by decide +kernel
theorem dX2_read_25 : decode cX2_read 25 = .ok (.aload_n 0, 1) := by decide +kernel
theorem dX2_read_26 : decode cX2_read 26 = .ok (.getfield 65, 3) := by decide +kernel
theorem dX2_read_29 : decode cX2_read 29 = .ok (.if_icmp .ge 64, 3) := by decide +kernel
theorem dX2_read_32 : decode cX2_read 32 = .ok (.iload_n 1, 1) := by decide +kernel
theorem dX2_read_33 : decode cX2_read 33 = .ok (.iconst 3, 1) := by decide +kernel
theorem dX2_read_34 : decode cX2_read 34 = .ok (.if_icmp .ne 15, 3) := by decide +kernel
theorem dX2_read_37 : decode cX2_read 37 = .ok (.aload_n 0, 1) := by decide +kernel
theorem dX2_read_38 : decode cX2_read 38 = .ok (.iload 5, 2) := by decide +kernel
theorem dX2_read_40 : decode cX2_read 40 = .ok (.iconst 1, 1) := by decide +kernel
theorem dX2_read_41 : decode cX2_read 41 = .ok (.invokevirtual 94, 3) := by decide +kernel
theorem dX2_read_44 : decode cX2_read 44 = .ok (.lload_n 2, 1) := by decide +kernel
theorem dX2_read_45 : decode cX2_read 45 = .ok (.lcmp, 1) := by decide +kernel
theorem dX2_read_46 : decode cX2_read 46 = .ok (.ifCond .eq 20, 3) := by decide +kernel
theorem dX2_read_49 : decode cX2_read 49 = .ok (.iload_n 1, 1) := by decide +kernel
theorem dX2_read_50 : decode cX2_read 50 = .ok (.iconst 5, 1) := by decide +kernel
theorem dX2_read_51 : decode cX2_read 51 = .ok (.if_icmp .ne 19, 3) := by decide +kernel
theorem dX2_read_54 : decode cX2_read 54 = .ok (.aload_n 0, 1) := by decide +kernel
theorem dX2_read_55 : decode cX2_read 55 = .ok (.iload 5, 2) := by decide +kernel
theorem dX2_read_57 : decode cX2_read 57 = .ok (.iconst 0, 1) := by decide +kernel
theorem dX2_read_58 : decode cX2_read 58 = .ok (.invokevirtual 94, 3) := by decide +kernel
theorem dX2_read_61 : decode cX2_read 61 = .ok (.lload_n 2, 1) := by decide +kernel
theorem dX2_read_62 : decode cX2_read 62 = .ok (.lcmp, 1) := by decide +kernel
theorem dX2_read_63 : decode cX2_read 63 = .ok (.ifCond .ne 7, 3) := by decide +kernel
theorem dX2_read_66 : decode cX2_read 66 = .ok (.iconst 1, 1) := by decide +kernel
theorem dX2_read_67 : decode cX2_read 67 = .ok (.goto 4, 3) := by decide +kernel
theorem dX2_read_70 : decode cX2_read 70 = .ok (.iconst 0, 1) := by decide +kernel
theorem dX2_read_71 : decode cX2_read 71 = .ok (.istore 6, 2) := by decide +kernel
theorem dX2_read_73 : decode cX2_read 73 = .ok (.iload 6, 2) := by decide +kernel
theorem dX2_read_75 : decode cX2_read 75 = .ok (.ifCond .eq 8, 3) := by decide +kernel
theorem dX2_read_78 : decode cX2_read 78 = .ok (.iload 5, 2) := by decide +kernel
theorem dX2_read_80 : decode cX2_read 80 = .ok (.goto 5, 3) := by decide +kernel
theorem dX2_read_83 : decode cX2_read 83 = .ok (.iload 4, 2) := by decide +kernel
theorem dX2_read_85 : decode cX2_read 85 = .ok (.istore 4, 2) := by decide +kernel
theorem dX2_read_87 : decode cX2_read 87 = .ok (.iinc 5 1, 3) := by decide +kernel
theorem dX2_read_90 : decode cX2_read 90 = .ok (.goto (-67), 3) := by decide +kernel
theorem dX2_read_93 : decode cX2_read 93 = .ok (.iload 4, 2) := by decide +kernel
theorem dX2_read_95 : decode cX2_read 95 = .ok (.ireturn, 1) := by decide +kernel
theorem dX2_code_0 : decode cX2_code 0 = .ok (.aload_n 0, 1) := by decide +kernel
theorem dX2_code_1 : decode cX2_code 1 = .ok (.aload_n 0, 1) := by decide +kernel
theorem dX2_code_2 : decode cX2_code 2 = .ok (.iload_n 1, 1) := by decide +kernel
theorem dX2_code_3 : decode cX2_code 3 = .ok (.invokevirtual 81, 3) := by decide +kernel
theorem dX2_code_6 : decode cX2_code 6 = .ok (.iconst 0, 1) := by decide +kernel
theorem dX2_code_7 : decode cX2_code 7 = .ok (.iconst 0, 1) := by decide +kernel
theorem dX2_code_8 : decode cX2_code 8 = .ok (.invokevirtual 58, 3) := by decide +kernel
theorem dX2_code_11 : decode cX2_code 11 = .ok (.ifCond .ne 5, 3) := by decide +kernel
theorem dX2_code_14 : decode cX2_code 14 = .ok (.lconst 0, 1) := by decide +kernel
theorem dX2_code_15 : decode cX2_code 15 = .ok (.lreturn, 1) := by decide +kernel
theorem dX2_code_16 : decode cX2_code 16 = .ok (.aload_n 0, 1) := by decide +kernel
theorem dX2_code_17 : decode cX2_code 17 = .ok (.aload_n 0, 1) := by decide +kernel
theorem dX2_code_18 : decode cX2_code 18 = .ok (.getfield 16, 3) := by decide +kernel
theorem dX2_code_21 : decode cX2_code 21 = .ok (.iload_n 1, 1) := by decide +kernel
theorem dX2_code_22 : decode cX2_code 22 = .ok (.iaload, 1) := by decide +kernel
theorem dX2_code_23 : decode cX2_code 23 = .ok (.iload_n 2, 1) := by decide +kernel
theorem dX2_code_24 : decode cX2_code 24 = .ok (.invokevirtual 94, 3) := by decide +kernel
theorem dX2_code_27 : decode cX2_code 27 = .ok (.lreturn, 1) := by decide +kernel
theorem dX2_decode_0 : decode cX2_decode 0 = .ok (.aload_n 0, 1) := by decide +kernel
theorem dX2_decode_1 : decode cX2_decode 1 = .ok (.iload_n 2, 1) := by decide +kernel
theorem dX2_decode_2 : decode cX2_decode 2 = .ok (.lload_n 3, 1) := by decide +kernel
theorem dX2_decode_3 : decode cX2_decode 3 = .ok (.invokevirtual 98, 3) := by decide +kernel
theorem dX2_decode_6 : decode cX2_decode 6 = .ok (.istore 5, 2) := by decide +kernel
theorem dX2_decode_8 : decode cX2_decode 8 = .ok (.aload_n 0, 1) := by decide +kernel
theorem dX2_decode_9 : decode cX2_decode 9 = .ok (.aload_n 0, 1) := by decide +kernel
theorem dX2_decode_10 : decode cX2_decode 10 = .ok (.getfield 65, 3) := by decide +kernel
theorem dX2_decode_13 : decode cX2_decode 13 = .ok (.ifCond .ne 7, 3) := by decide +kernel
theorem dX2_decode_16 : decode cX2_decode 16 = .ok (.iconst 1, 1) := by decide +kernel
theorem dX2_decode_17 : decode cX2_decode 17 = .ok (.goto 4, 3) := by decide +kernel
theorem dX2_decode_20 : decode cX2_decode 20 = .ok (.iconst 0, 1) := by decide +kernel
theorem dX2_decode_21 : decode cX2_decode 21 = .ok (.aload_n 0, 1) := by decide +kernel
theorem dX2_decode_22 : decode cX2_decode 22 = .ok (.iload_n 1, 1) := by decide +kernel
theorem dX2_decode_23 : decode cX2_decode 23 = .ok (.invokevirtual 81, 3) := by decide +kernel
theorem dX2_decode_26 : decode cX2_decode 26 = .ok (.iload 5, 2) := by decide +kernel
theorem dX2_decode_28 : decode cX2_decode 28 = .ok (.ifCond .ge 7, 3) := by decide +kernel
theorem dX2_decode_31 : decode cX2_decode 31 = .ok (.iconst 1, 1) := by decide +kernel
theorem dX2_decode_32 : decode cX2_decode 32 = .ok (.goto 4, 3) := by decide +kernel
theorem dX2_decode_35 : decode cX2_decode 35 = .ok (.iconst 0, 1) := by decide +kernel
theorem dX2_decode_36 : decode cX2_decode 36 = .ok (.invokevirtual 58, 3) := by decide +kernel
theorem dX2_decode_39 : decode cX2_decode 39 = .ok (.ifCond .eq 11, 3) := by decide +kernel
theorem dX2_decode_42 : decode cX2_decode 42 = .ok (.aload_n 0, 1) := by decide +kernel
theorem dX2_decode_43 : decode cX2_decode 43 = .ok (.getfield 16, 3) := by decide +kernel
theorem dX2_decode_46 : decode cX2_decode 46 = .ok (.iload_n 1, 1) := by decide +kernel
theorem dX2_decode_47 : decode cX2_decode 47 = .ok (.iload 5, 2) := by decide +kernel
theorem dX2_decode_49 : decode cX2_decode 49 = .ok (.iastore, 1) := by decide +kernel
theorem dX2_decode_50 : decode cX2_decode 50 = .ok (.return_, 1) := by decide +kernel
theorem dX2_key_0 : decode cX2_key 0 = .ok (.aload_n 0, 1) := by decide +kernel
theorem dX2_key_1 : decode cX2_key 1 = .ok (.aload_n 0, 1) := by decide +kernel
theorem dX2_key_2 : decode cX2_key 2 = .ok (.getfield 65, 3) := by decide +kernel
theorem dX2_key_5 : decode cX2_key 5 = .ok (.ifCond .ne 7, 3) := by decide +kernel
theorem dX2_key_8 : decode cX2_key 8 = .ok (.iconst 1, 1) := by decide +kernel
theorem dX2_key_9 : decode cX2_key 9 = .ok (.goto 4, 3) := by decide +kernel
theorem dX2_key_12 : decode cX2_key 12 = .ok (.iconst 0, 1) := by decide +kernel
theorem dX2_key_13 : decode cX2_key 13 = .ok (.aload_n 0, 1) := by decide +kernel
theorem dX2_key_14 : decode cX2_key 14 = .ok (.iload_n 1, 1) := by decide +kernel
theorem dX2_key_15 : decode cX2_key 15 = .ok (.invokevirtual 81, 3) := by decide +kernel
theorem dX2_key_18 : decode cX2_key 18 = .ok (.iload_n 2, 1) := by decide +kernel
theorem dX2_key_19 : decode cX2_key 19 = .ok (.iconst 1, 1) := by decide +kernel
theorem dX2_key_20 : decode cX2_key 20 = .ok (.if_icmp .lt 11, 3) := by decide +kernel
theorem dX2_key_23 : decode cX2_key 23 = .ok (.iload_n 2, 1) := by decide +kernel
theorem dX2_key_24 : decode cX2_key 24 = .ok (.aload_n 0, 1) := by decide +kernel
theorem dX2_key_25 : decode cX2_key 25 = .ok (.getfield 65, 3) := by decide +kernel
theorem dX2_key_28 : decode cX2_key 28 = .ok (.if_icmp .lt 7, 3) := by decide +kernel
theorem dX2_key_31 : decode cX2_key 31 = .ok (.iconst 1, 1) := by decide +kernel
theorem dX2_key_32 : decode cX2_key 32 = .ok (.goto 4, 3) := by decide +kernel
theorem dX2_key_35 : decode cX2_key 35 = .ok (.iconst 0, 1) := by decide +kernel
theorem dX2_key_36 : decode cX2_key 36 = .ok (.invokevirtual 58, 3) := by decide +kernel
theorem dX2_key_39 : decode cX2_key 39 = .ok (.ifCond .eq 15, 3) := by decide +kernel
theorem dX2_key_42 : decode cX2_key 42 = .ok (.aload_n 0, 1) := by decide +kernel
theorem dX2_key_43 : decode cX2_key 43 = .ok (.iload_n 2, 1) := by decide +kernel
theorem dX2_key_44 : decode cX2_key 44 = .ok (.putfield 68, 3) := by decide +kernel
theorem dX2_key_47 : decode cX2_key 47 = .ok (.aload_n 0, 1) := by decide +kernel
theorem dX2_key_48 : decode cX2_key 48 = .ok (.getfield 16, 3) := by decide +kernel
theorem dX2_key_51 : decode cX2_key 51 = .ok (.iload_n 1, 1) := by decide +kernel
theorem dX2_key_52 : decode cX2_key 52 = .ok (.iload_n 2, 1) := by decide +kernel
theorem dX2_key_53 : decode cX2_key 53 = .ok (.iastore, 1) := by decide +kernel
theorem dX2_key_54 : decode cX2_key 54 = .ok (.return_, 1) := by decide +kernel
theorem dX2_mix_0 : decode cX2_mix 0 = .ok (.iload_n 1, 1) := by decide +kernel
theorem dX2_mix_1 : decode cX2_mix 1 = .ok (.iload_n 2, 1) := by decide +kernel
theorem dX2_mix_2 : decode cX2_mix 2 = .ok (.ixor, 1) := by decide +kernel
theorem dX2_mix_3 : decode cX2_mix 3 = .ok (.ldc 102, 2) := by decide +kernel
theorem dX2_mix_5 : decode cX2_mix 5 = .ok (.imul, 1) := by decide +kernel
theorem dX2_mix_6 : decode cX2_mix 6 = .ok (.iload_n 1, 1) := by decide +kernel
theorem dX2_mix_7 : decode cX2_mix 7 = .ok (.iadd, 1) := by decide +kernel
theorem dX2_mix_8 : decode cX2_mix 8 = .ok (.istore_n 3, 1) := by decide +kernel
theorem dX2_mix_9 : decode cX2_mix 9 = .ok (.iload_n 3, 1) := by decide +kernel
theorem dX2_mix_10 : decode cX2_mix 10 = .ok (.iload_n 3, 1) := by decide +kernel
theorem dX2_mix_11 : decode cX2_mix 11 = .ok (.bipush 7, 2) := by decide +kernel
theorem dX2_mix_13 : decode cX2_mix 13 = .ok (.ishl, 1) := by decide +kernel
theorem dX2_mix_14 : decode cX2_mix 14 = .ok (.iload_n 3, 1) := by decide +kernel
theorem dX2_mix_15 : decode cX2_mix 15 = .ok (.bipush 25, 2) := by decide +kernel
theorem dX2_mix_17 : decode cX2_mix 17 = .ok (.iushr, 1) := by decide +kernel
theorem dX2_mix_18 : decode cX2_mix 18 = .ok (.ior, 1) := by decide +kernel
theorem dX2_mix_19 : decode cX2_mix 19 = .ok (.iadd, 1) := by decide +kernel
theorem dX2_mix_20 : decode cX2_mix 20 = .ok (.ireturn, 1) := by decide +kernel
theorem dX2_stir_0 : decode cX2_stir 0 = .ok (.aload_n 0, 1) := by decide +kernel
theorem dX2_stir_1 : decode cX2_stir 1 = .ok (.aload_n 0, 1) := by decide +kernel
theorem dX2_stir_2 : decode cX2_stir 2 = .ok (.aload_n 0, 1) := by decide +kernel
theorem dX2_stir_3 : decode cX2_stir 3 = .ok (.getfield 103, 3) := by decide +kernel
theorem dX2_stir_6 : decode cX2_stir 6 = .ok (.iload_n 1, 1) := by decide +kernel
theorem dX2_stir_7 : decode cX2_stir 7 = .ok (.invokevirtual 106, 3) := by decide +kernel
theorem dX2_stir_10 : decode cX2_stir 10 = .ok (.putfield 103, 3) := by decide +kernel
theorem dX2_stir_13 : decode cX2_stir 13 = .ok (.aload_n 0, 1) := by decide +kernel
theorem dX2_stir_14 : decode cX2_stir 14 = .ok (.aload_n 0, 1) := by decide +kernel
theorem dX2_stir_15 : decode cX2_stir 15 = .ok (.aload_n 0, 1) := by decide +kernel
theorem dX2_stir_16 : decode cX2_stir 16 = .ok (.getfield 103, 3) := by decide +kernel
theorem dX2_stir_19 : decode cX2_stir 19 = .ok (.aload_n 0, 1) := by decide +kernel
theorem dX2_stir_20 : decode cX2_stir 20 = .ok (.getfield 109, 3) := by decide +kernel
theorem dX2_stir_23 : decode cX2_stir 23 = .ok (.invokevirtual 106, 3) := by decide +kernel
theorem dX2_stir_26 : decode cX2_stir 26 = .ok (.putfield 109, 3) := by decide +kernel
theorem dX2_stir_29 : decode cX2_stir 29 = .ok (.return_, 1) := by decide +kernel
theorem dX2_sign_0 : decode cX2_sign 0 = .ok (.aload_n 0, 1) := by decide +kernel
theorem dX2_sign_1 : decode cX2_sign 1 = .ok (.aload_n 0, 1) := by decide +kernel
theorem dX2_sign_2 : decode cX2_sign 2 = .ok (.getfield 65, 3) := by decide +kernel
theorem dX2_sign_5 : decode cX2_sign 5 = .ok (.ifCond .eq 10, 3) := by decide +kernel
theorem dX2_sign_8 : decode cX2_sign 8 = .ok (.aload_n 0, 1) := by decide +kernel
theorem dX2_sign_9 : decode cX2_sign 9 = .ok (.getfield 68, 3) := by decide +kernel
theorem dX2_sign_12 : decode cX2_sign 12 = .ok (.ifCond .ne 7, 3) := by decide +kernel
theorem dX2_sign_15 : decode cX2_sign 15 = .ok (.iconst 1, 1) := by decide +kernel
theorem dX2_sign_16 : decode cX2_sign 16 = .ok (.goto 4, 3) := by decide +kernel
theorem dX2_sign_19 : decode cX2_sign 19 = .ok (.iconst 0, 1) := by decide +kernel
theorem dX2_sign_20 : decode cX2_sign 20 = .ok (.iconst 0, 1) := by decide +kernel
theorem dX2_sign_21 : decode cX2_sign 21 = .ok (.iconst 0, 1) := by decide +kernel
theorem dX2_sign_22 : decode cX2_sign 22 = .ok (.invokevirtual 58, 3) := by decide +kernel
theorem dX2_sign_25 : decode cX2_sign 25 = .ok (.ifCond .ne 5, 3) := by decide +kernel
theorem dX2_sign_28 : decode cX2_sign 28 = .ok (.lconst 0, 1) := by decide +kernel
theorem dX2_sign_29 : decode cX2_sign 29 = .ok (.lreturn, 1) := by decide +kernel
theorem dX2_sign_30 : decode cX2_sign 30 = .ok (.aload_n 0, 1) := by decide +kernel
theorem dX2_sign_31 : decode cX2_sign 31 = .ok (.lload_n 1, 1) := by decide +kernel
theorem dX2_sign_32 : decode cX2_sign 32 = .ok (.invokevirtual 84, 3) := by decide +kernel
theorem dX2_sign_35 : decode cX2_sign 35 = .ok (.istore_n 3, 1) := by decide +kernel
theorem dX2_sign_36 : decode cX2_sign 36 = .ok (.iconst 1, 1) := by decide +kernel
theorem dX2_sign_37 : decode cX2_sign 37 = .ok (.istore 4, 2) := by decide +kernel
theorem dX2_sign_39 : decode cX2_sign 39 = .ok (.iload 4, 2) := by decide +kernel
theorem dX2_sign_41 : decode cX2_sign 41 = .ok (.aload_n 0, 1) := by decide +kernel
theorem dX2_sign_42 : decode cX2_sign 42 = .ok (.getfield 65, 3) := by decide +kernel
theorem dX2_sign_45 : decode cX2_sign 45 = .ok (.if_icmp .ge 14, 3) := by decide +kernel
theorem dX2_sign_48 : decode cX2_sign 48 = .ok (.iconst 2, 1) := by decide +kernel
theorem dX2_sign_49 : decode cX2_sign 49 = .ok (.iload 4, 2) := by decide +kernel
theorem dX2_sign_51 : decode cX2_sign 51 = .ok (.imul, 1) := by decide +kernel
theorem dX2_sign_52 : decode cX2_sign 52 = .ok (.iconst 1, 1) := by decide +kernel
theorem dX2_sign_53 : decode cX2_sign 53 = .ok (.iadd, 1) := by decide +kernel
theorem dX2_sign_54 : decode cX2_sign 54 = .ok (.istore 4, 2) := by decide +kernel
theorem dX2_sign_56 : decode cX2_sign 56 = .ok (.goto (-17), 3) := by decide +kernel
theorem dX2_sign_59 : decode cX2_sign 59 = .ok (.aload_n 0, 1) := by decide +kernel
theorem dX2_sign_60 : decode cX2_sign 60 = .ok (.iconst 0, 1) := by decide +kernel
theorem dX2_sign_61 : decode cX2_sign 61 = .ok (.putfield 103, 3) := by decide +kernel
theorem dX2_sign_64 : decode cX2_sign 64 = .ok (.aload_n 0, 1) := by decide +kernel
theorem dX2_sign_65 : decode cX2_sign 65 = .ok (.iconst 1, 1) := by decide +kernel
theorem dX2_sign_66 : decode cX2_sign 66 = .ok (.putfield 109, 3) := by decide +kernel
theorem dX2_sign_69 : decode cX2_sign 69 = .ok (.aload_n 0, 1) := by decide +kernel
theorem dX2_sign_70 : decode cX2_sign 70 = .ok (.aload_n 0, 1) := by decide +kernel
theorem dX2_sign_71 : decode cX2_sign 71 = .ok (.getfield 109, 3) := by decide +kernel
theorem dX2_sign_74 : decode cX2_sign 74 = .ok (.aload_n 0, 1) := by decide +kernel
theorem dX2_sign_75 : decode cX2_sign 75 = .ok (.getfield 68, 3) := by decide +kernel
theorem dX2_sign_78 : decode cX2_sign 78 = .ok (.iadd, 1) := by decide +kernel
theorem dX2_sign_79 : decode cX2_sign 79 = .ok (.invokevirtual 112, 3) := by decide +kernel
theorem dX2_sign_82 : decode cX2_sign 82 = .ok (.aload_n 0, 1) := by decide +kernel
theorem dX2_sign_83 : decode cX2_sign 83 = .ok (.aload_n 0, 1) := by decide +kernel
theorem dX2_sign_84 : decode cX2_sign 84 = .ok (.getfield 109, 3) := by decide +kernel
theorem dX2_sign_87 : decode cX2_sign 87 = .ok (.iload_n 3, 1) := by decide +kernel
theorem dX2_sign_88 : decode cX2_sign 88 = .ok (.ixor, 1) := by decide +kernel
theorem dX2_sign_89 : decode cX2_sign 89 = .ok (.invokevirtual 112, 3) := by decide +kernel
theorem dX2_sign_92 : decode cX2_sign 92 = .ok (.iconst 1, 1) := by decide +kernel
theorem dX2_sign_93 : decode cX2_sign 93 = .ok (.istore 5, 2) := by decide +kernel
theorem dX2_sign_95 : decode cX2_sign 95 = .ok (.iload 5, 2) := by decide +kernel
theorem dX2_sign_97 : decode cX2_sign 97 = .ok (.bipush 24, 2) := by decide +kernel
theorem dX2_sign_99 : decode cX2_sign 99 = .ok (.if_icmp .gt 133, 3) := by decide +kernel
theorem dX2_sign_102 : decode cX2_sign 102 = .ok (.aload_n 0, 1) := by decide +kernel
theorem dX2_sign_103 : decode cX2_sign 103 = .ok (.aload_n 0, 1) := by decide +kernel
theorem dX2_sign_104 : decode cX2_sign 104 = .ok (.aload_n 0, 1) := by decide +kernel
theorem dX2_sign_105 : decode cX2_sign 105 = .ok (.getfield 103, 3) := by decide +kernel
theorem dX2_sign_108 : decode cX2_sign 108 = .ok (.aload_n 0, 1) := by decide +kernel
theorem dX2_sign_109 : decode cX2_sign 109 = .ok (.getfield 109, 3) := by decide +kernel
theorem dX2_sign_112 : decode cX2_sign 112 = .ok (.invokevirtual 106, 3) := by decide +kernel
theorem dX2_sign_115 : decode cX2_sign 115 = .ok (.putfield 109, 3) := by decide +kernel
theorem dX2_sign_118 : decode cX2_sign 118 = .ok (.aload_n 0, 1) := by decide +kernel
theorem dX2_sign_119 : decode cX2_sign 119 = .ok (.getfield 109, 3) := by decide +kernel
theorem dX2_sign_122 : decode cX2_sign 122 = .ok (.iload 4, 2) := by decide +kernel
theorem dX2_sign_124 : decode cX2_sign 124 = .ok (.iand, 1) := by decide +kernel
theorem dX2_sign_125 : decode cX2_sign 125 = .ok (.istore 6, 2) := by decide +kernel
theorem dX2_sign_127 : decode cX2_sign 127 = .ok (.iload 6, 2) := by decide +kernel
theorem dX2_sign_129 : decode cX2_sign 129 = .ok (.iconst 1, 1) := by decide +kernel
theorem dX2_sign_130 : decode cX2_sign 130 = .ok (.if_icmp .lt 86, 3) := by decide +kernel
theorem dX2_sign_133 : decode cX2_sign 133 = .ok (.iload 6, 2) := by decide +kernel
theorem dX2_sign_135 : decode cX2_sign 135 = .ok (.aload_n 0, 1) := by decide +kernel
theorem dX2_sign_136 : decode cX2_sign 136 = .ok (.getfield 65, 3) := by decide +kernel
theorem dX2_sign_139 : decode cX2_sign 139 = .ok (.if_icmp .ge 77, 3) := by decide +kernel
theorem dX2_sign_142 : decode cX2_sign 142 = .ok (.aload_n 0, 1) := by decide +kernel
theorem dX2_sign_143 : decode cX2_sign 143 = .ok (.getfield 7, 3) := by decide +kernel
theorem dX2_sign_146 : decode cX2_sign 146 = .ok (.iload 6, 2) := by decide +kernel
theorem dX2_sign_148 : decode cX2_sign 148 = .ok (.iaload, 1) := by decide +kernel
theorem dX2_sign_149 : decode cX2_sign 149 = .ok (.aload_n 0, 1) := by decide +kernel
theorem dX2_sign_150 : decode cX2_sign 150 = .ok (.getfield 65, 3) := by decide +kernel
theorem dX2_sign_153 : decode cX2_sign 153 = .ok (.irem, 1) := by decide +kernel
theorem dX2_sign_154 : decode cX2_sign 154 = .ok (.istore 7, 2) := by decide +kernel
theorem dX2_sign_156 : decode cX2_sign 156 = .ok (.iload_n 3, 1) := by decide +kernel
theorem dX2_sign_157 : decode cX2_sign 157 = .ok (.iload 7, 2) := by decide +kernel
theorem dX2_sign_159 : decode cX2_sign 159 = .ok (.aload_n 0, 1) := by decide +kernel
theorem dX2_sign_160 : decode cX2_sign 160 = .ok (.getfield 68, 3) := by decide +kernel
theorem dX2_sign_163 : decode cX2_sign 163 = .ok (.imul, 1) := by decide +kernel
theorem dX2_sign_164 : decode cX2_sign 164 = .ok (.iadd, 1) := by decide +kernel
theorem dX2_sign_165 : decode cX2_sign 165 = .ok (.aload_n 0, 1) := by decide +kernel
theorem dX2_sign_166 : decode cX2_sign 166 = .ok (.getfield 65, 3) := by decide +kernel
theorem dX2_sign_169 : decode cX2_sign 169 = .ok (.irem, 1) := by decide +kernel
theorem dX2_sign_170 : decode cX2_sign 170 = .ok (.aload_n 0, 1) := by decide +kernel
theorem dX2_sign_171 : decode cX2_sign 171 = .ok (.iload 6, 2) := by decide +kernel
theorem dX2_sign_173 : decode cX2_sign 173 = .ok (.aload_n 0, 1) := by decide +kernel
theorem dX2_sign_174 : decode cX2_sign 174 = .ok (.getfield 65, 3) := by decide +kernel
theorem dX2_sign_177 : decode cX2_sign 177 = .ok (.invokevirtual 44, 3) := by decide +kernel
theorem dX2_sign_180 : decode cX2_sign 180 = .ok (.imul, 1) := by decide +kernel
theorem dX2_sign_181 : decode cX2_sign 181 = .ok (.aload_n 0, 1) := by decide +kernel
theorem dX2_sign_182 : decode cX2_sign 182 = .ok (.getfield 65, 3) := by decide +kernel
theorem dX2_sign_185 : decode cX2_sign 185 = .ok (.irem, 1) := by decide +kernel
theorem dX2_sign_186 : decode cX2_sign 186 = .ok (.istore 8, 2) := by decide +kernel
theorem dX2_sign_188 : decode cX2_sign 188 = .ok (.iload 7, 2) := by decide +kernel
theorem dX2_sign_190 : decode cX2_sign 190 = .ok (.ifCond .eq 26, 3) := by decide +kernel
theorem dX2_sign_193 : decode cX2_sign 193 = .ok (.iload 8, 2) := by decide +kernel
theorem dX2_sign_195 : decode cX2_sign 195 = .ok (.ifCond .eq 21, 3) := by decide +kernel
theorem dX2_sign_198 : decode cX2_sign 198 = .ok (.aload_n 0, 1) := by decide +kernel
theorem dX2_sign_199 : decode cX2_sign 199 = .ok (.iload 5, 2) := by decide +kernel
theorem dX2_sign_201 : decode cX2_sign 201 = .ok (.putfield 116, 3) := by decide +kernel
theorem dX2_sign_204 : decode cX2_sign 204 = .ok (.iload 7, 2) := by decide +kernel
theorem dX2_sign_206 : decode cX2_sign 206 = .ok (.i2l, 1) := by decide +kernel
theorem dX2_sign_207 : decode cX2_sign 207 = .ok (.ldc2_w 90, 3) := by decide +kernel
theorem dX2_sign_210 : decode cX2_sign 210 = .ok (.lmul, 1) := by decide +kernel
theorem dX2_sign_211 : decode cX2_sign 211 = .ok (.iload 8, 2) := by decide +kernel
theorem dX2_sign_213 : decode cX2_sign 213 = .ok (.i2l, 1) := by decide +kernel
theorem dX2_sign_214 : decode cX2_sign 214 = .ok (.ladd, 1) := by decide +kernel
theorem dX2_sign_215 : decode cX2_sign 215 = .ok (.lreturn, 1) := by decide +kernel
theorem dX2_sign_216 : decode cX2_sign 216 = .ok (.aload_n 0, 1) := by decide +kernel
theorem dX2_sign_217 : decode cX2_sign 217 = .ok (.aload_n 0, 1) := by decide +kernel
theorem dX2_sign_218 : decode cX2_sign 218 = .ok (.getfield 109, 3) := by decide +kernel
theorem dX2_sign_221 : decode cX2_sign 221 = .ok (.iconst 1, 1) := by decide +kernel
theorem dX2_sign_222 : decode cX2_sign 222 = .ok (.iadd, 1) := by decide +kernel
theorem dX2_sign_223 : decode cX2_sign 223 = .ok (.invokevirtual 112, 3) := by decide +kernel
theorem dX2_sign_226 : decode cX2_sign 226 = .ok (.iinc 5 1, 3) := by decide +kernel
theorem dX2_sign_229 : decode cX2_sign 229 = .ok (.goto (-134), 3) := by decide +kernel
theorem dX2_sign_232 : decode cX2_sign 232 = .ok (.aload_n 0, 1) := by decide +kernel
theorem dX2_sign_233 : decode cX2_sign 233 = .ok (.iconst 2, 1) := by decide +kernel
theorem dX2_sign_234 : decode cX2_sign 234 = .ok (.putfield 22, 3) := by decide +kernel
theorem dX2_sign_237 : decode cX2_sign 237 = .ok (.lconst 0, 1) := by decide +kernel
theorem dX2_sign_238 : decode cX2_sign 238 = .ok (.lreturn, 1) := by decide +kernel
theorem dX2_draws_0 : decode cX2_draws 0 = .ok (.aload_n 0, 1) := by decide +kernel
theorem dX2_draws_1 : decode cX2_draws 1 = .ok (.iconst 0, 1) := by decide +kernel
theorem dX2_draws_2 : decode cX2_draws 2 = .ok (.putfield 22, 3) := by decide +kernel
theorem dX2_draws_5 : decode cX2_draws 5 = .ok (.aload_n 0, 1) := by decide +kernel
theorem dX2_draws_6 : decode cX2_draws 6 = .ok (.getfield 116, 3) := by decide +kernel
theorem dX2_draws_9 : decode cX2_draws 9 = .ok (.ireturn, 1) := by decide +kernel
theorem dX2_fits_0 : decode cX2_fits 0 = .ok (.iload_n 1, 1) := by decide +kernel
theorem dX2_fits_1 : decode cX2_fits 1 = .ok (.ifCond .le 33, 3) := by decide +kernel
theorem dX2_fits_4 : decode cX2_fits 4 = .ok (.iload 4, 2) := by decide +kernel
theorem dX2_fits_6 : decode cX2_fits 6 = .ok (.iconst 1, 1) := by decide +kernel
theorem dX2_fits_7 : decode cX2_fits 7 = .ok (.if_icmp .lt 27, 3) := by decide +kernel
theorem dX2_fits_10 : decode cX2_fits 10 = .ok (.iload 4, 2) := by decide +kernel
theorem dX2_fits_12 : decode cX2_fits 12 = .ok (.aload_n 0, 1) := by decide +kernel
theorem dX2_fits_13 : decode cX2_fits 13 = .ok (.getfield 65, 3) := by decide +kernel
theorem dX2_fits_16 : decode cX2_fits 16 = .ok (.if_icmp .ge 18, 3) := by decide +kernel
theorem dX2_fits_19 : decode cX2_fits 19 = .ok (.iload 5, 2) := by decide +kernel
theorem dX2_fits_21 : decode cX2_fits 21 = .ok (.iconst 1, 1) := by decide +kernel
theorem dX2_fits_22 : decode cX2_fits 22 = .ok (.if_icmp .lt 12, 3) := by decide +kernel
theorem dX2_fits_25 : decode cX2_fits 25 = .ok (.iload 5, 2) := by decide +kernel
theorem dX2_fits_27 : decode cX2_fits 27 = .ok (.aload_n 0, 1) := by decide +kernel
theorem dX2_fits_28 : decode cX2_fits 28 = .ok (.getfield 65, 3) := by decide +kernel
theorem dX2_fits_31 : decode cX2_fits 31 = .ok (.if_icmp .lt 5, 3) := by decide +kernel
theorem dX2_fits_34 : decode cX2_fits 34 = .ok (.iconst 0, 1) := by decide +kernel
theorem dX2_fits_35 : decode cX2_fits 35 = .ok (.ireturn, 1) := by decide +kernel
theorem dX2_fits_36 : decode cX2_fits 36 = .ok (.aload_n 0, 1) := by decide +kernel
theorem dX2_fits_37 : decode cX2_fits 37 = .ok (.iload 5, 2) := by decide +kernel
theorem dX2_fits_39 : decode cX2_fits 39 = .ok (.aload_n 0, 1) := by decide +kernel
theorem dX2_fits_40 : decode cX2_fits 40 = .ok (.getfield 65, 3) := by decide +kernel
theorem dX2_fits_43 : decode cX2_fits 43 = .ok (.invokevirtual 44, 3) := by decide +kernel
theorem dX2_fits_46 : decode cX2_fits 46 = .ok (.istore 6, 2) := by decide +kernel
theorem dX2_fits_48 : decode cX2_fits 48 = .ok (.aload_n 0, 1) := by decide +kernel
theorem dX2_fits_49 : decode cX2_fits 49 = .ok (.lload_n 2, 1) := by decide +kernel
theorem dX2_fits_50 : decode cX2_fits 50 = .ok (.invokevirtual 84, 3) := by decide +kernel
theorem dX2_fits_53 : decode cX2_fits 53 = .ok (.iload 6, 2) := by decide +kernel
theorem dX2_fits_55 : decode cX2_fits 55 = .ok (.imul, 1) := by decide +kernel
theorem dX2_fits_56 : decode cX2_fits 56 = .ok (.iload 4, 2) := by decide +kernel
theorem dX2_fits_58 : decode cX2_fits 58 = .ok (.iload 6, 2) := by decide +kernel
theorem dX2_fits_60 : decode cX2_fits 60 = .ok (.imul, 1) := by decide +kernel
theorem dX2_fits_61 : decode cX2_fits 61 = .ok (.aload_n 0, 1) := by decide +kernel
theorem dX2_fits_62 : decode cX2_fits 62 = .ok (.getfield 65, 3) := by decide +kernel
theorem dX2_fits_65 : decode cX2_fits 65 = .ok (.irem, 1) := by decide +kernel
theorem dX2_fits_66 : decode cX2_fits 66 = .ok (.iload_n 1, 1) := by decide +kernel
theorem dX2_fits_67 : decode cX2_fits 67 = .ok (.imul, 1) := by decide +kernel
theorem dX2_fits_68 : decode cX2_fits 68 = .ok (.iadd, 1) := by decide +kernel
theorem dX2_fits_69 : decode cX2_fits 69 = .ok (.aload_n 0, 1) := by decide +kernel
theorem dX2_fits_70 : decode cX2_fits 70 = .ok (.getfield 65, 3) := by decide +kernel
theorem dX2_fits_73 : decode cX2_fits 73 = .ok (.irem, 1) := by decide +kernel
theorem dX2_fits_74 : decode cX2_fits 74 = .ok (.istore 7, 2) := by decide +kernel
theorem dX2_fits_76 : decode cX2_fits 76 = .ok (.iload 7, 2) := by decide +kernel
theorem dX2_fits_78 : decode cX2_fits 78 = .ok (.ifCond .eq 24, 3) := by decide +kernel
theorem dX2_fits_81 : decode cX2_fits 81 = .ok (.aload_n 0, 1) := by decide +kernel
theorem dX2_fits_82 : decode cX2_fits 82 = .ok (.getfield 7, 3) := by decide +kernel
theorem dX2_fits_85 : decode cX2_fits 85 = .ok (.iload 7, 2) := by decide +kernel
theorem dX2_fits_87 : decode cX2_fits 87 = .ok (.iaload, 1) := by decide +kernel
theorem dX2_fits_88 : decode cX2_fits 88 = .ok (.aload_n 0, 1) := by decide +kernel
theorem dX2_fits_89 : decode cX2_fits 89 = .ok (.getfield 65, 3) := by decide +kernel
theorem dX2_fits_92 : decode cX2_fits 92 = .ok (.irem, 1) := by decide +kernel
theorem dX2_fits_93 : decode cX2_fits 93 = .ok (.iload 4, 2) := by decide +kernel
theorem dX2_fits_95 : decode cX2_fits 95 = .ok (.if_icmp .ne 7, 3) := by decide +kernel
theorem dX2_fits_98 : decode cX2_fits 98 = .ok (.iconst 1, 1) := by decide +kernel
theorem dX2_fits_99 : decode cX2_fits 99 = .ok (.goto 4, 3) := by decide +kernel
theorem dX2_fits_102 : decode cX2_fits 102 = .ok (.iconst 0, 1) := by decide +kernel
theorem dX2_fits_103 : decode cX2_fits 103 = .ok (.ireturn, 1) := by decide +kernel
theorem dX2_verify_0 : decode cX2_verify 0 = .ok (.aload_n 0, 1) := by decide +kernel
theorem dX2_verify_1 : decode cX2_verify 1 = .ok (.aload_n 0, 1) := by decide +kernel
theorem dX2_verify_2 : decode cX2_verify 2 = .ok (.getfield 65, 3) := by decide +kernel
theorem dX2_verify_5 : decode cX2_verify 5 = .ok (.ifCond .ne 7, 3) := by decide +kernel
theorem dX2_verify_8 : decode cX2_verify 8 = .ok (.iconst 1, 1) := by decide +kernel
theorem dX2_verify_9 : decode cX2_verify 9 = .ok (.goto 4, 3) := by decide +kernel
theorem dX2_verify_12 : decode cX2_verify 12 = .ok (.iconst 0, 1) := by decide +kernel
theorem dX2_verify_13 : decode cX2_verify 13 = .ok (.aload_n 0, 1) := by decide +kernel
theorem dX2_verify_14 : decode cX2_verify 14 = .ok (.iload_n 1, 1) := by decide +kernel
theorem dX2_verify_15 : decode cX2_verify 15 = .ok (.invokevirtual 81, 3) := by decide +kernel
theorem dX2_verify_18 : decode cX2_verify 18 = .ok (.iconst 0, 1) := by decide +kernel
theorem dX2_verify_19 : decode cX2_verify 19 = .ok (.invokevirtual 58, 3) := by decide +kernel
theorem dX2_verify_22 : decode cX2_verify 22 = .ok (.ifCond .eq 25, 3) := by decide +kernel
theorem dX2_verify_25 : decode cX2_verify 25 = .ok (.aload_n 0, 1) := by decide +kernel
theorem dX2_verify_26 : decode cX2_verify 26 = .ok (.aload_n 0, 1) := by decide +kernel
theorem dX2_verify_27 : decode cX2_verify 27 = .ok (.getfield 16, 3) := by decide +kernel
theorem dX2_verify_30 : decode cX2_verify 30 = .ok (.iload_n 1, 1) := by decide +kernel
theorem dX2_verify_31 : decode cX2_verify 31 = .ok (.iaload, 1) := by decide +kernel
theorem dX2_verify_32 : decode cX2_verify 32 = .ok (.lload_n 2, 1) := by decide +kernel
theorem dX2_verify_33 : decode cX2_verify 33 = .ok (.iload 4, 2) := by decide +kernel
theorem dX2_verify_35 : decode cX2_verify 35 = .ok (.iload 5, 2) := by decide +kernel
theorem dX2_verify_37 : decode cX2_verify 37 = .ok (.invokevirtual 119, 3) := by decide +kernel
theorem dX2_verify_40 : decode cX2_verify 40 = .ok (.ifCond .eq 7, 3) := by decide +kernel
theorem dX2_verify_43 : decode cX2_verify 43 = .ok (.iconst 1, 1) := by decide +kernel
theorem dX2_verify_44 : decode cX2_verify 44 = .ok (.goto 4, 3) := by decide +kernel
theorem dX2_verify_47 : decode cX2_verify 47 = .ok (.iconst 0, 1) := by decide +kernel
theorem dX2_verify_48 : decode cX2_verify 48 = .ok (.ireturn, 1) := by decide +kernel
theorem dX2_accepts_0 : decode cX2_accepts 0 = .ok (.aload_n 0, 1) := by decide +kernel
theorem dX2_accepts_1 : decode cX2_accepts 1 = .ok (.aload_n 0, 1) := by decide +kernel
theorem dX2_accepts_2 : decode cX2_accepts 2 = .ok (.getfield 65, 3) := by decide +kernel
theorem dX2_accepts_5 : decode cX2_accepts 5 = .ok (.ifCond .ne 7, 3) := by decide +kernel
theorem dX2_accepts_8 : decode cX2_accepts 8 = .ok (.iconst 1, 1) := by decide +kernel
theorem dX2_accepts_9 : decode cX2_accepts 9 = .ok (.goto 4, 3) := by decide +kernel
theorem dX2_accepts_12 : decode cX2_accepts 12 = .ok (.iconst 0, 1) := by decide +kernel
theorem dX2_accepts_13 : decode cX2_accepts 13 = .ok (.iconst 0, 1) := by decide +kernel
theorem dX2_accepts_14 : decode cX2_accepts 14 = .ok (.iconst 0, 1) := by decide +kernel
theorem dX2_accepts_15 : decode cX2_accepts 15 = .ok (.invokevirtual 58, 3) := by decide +kernel
theorem dX2_accepts_18 : decode cX2_accepts 18 = .ok (.ifCond .ne 5, 3) := by decide +kernel
theorem dX2_accepts_21 : decode cX2_accepts 21 = .ok (.iconst 0, 1) := by decide +kernel
theorem dX2_accepts_22 : decode cX2_accepts 22 = .ok (.ireturn, 1) := by decide +kernel
theorem dX2_accepts_23 : decode cX2_accepts 23 = .ok (.aload_n 0, 1) := by decide +kernel
theorem dX2_accepts_24 : decode cX2_accepts 24 = .ok (.iload_n 1, 1) := by decide +kernel
theorem dX2_accepts_25 : decode cX2_accepts 25 = .ok (.lload_n 2, 1) := by decide +kernel
theorem dX2_accepts_26 : decode cX2_accepts 26 = .ok (.invokevirtual 98, 3) := by decide +kernel
theorem dX2_accepts_29 : decode cX2_accepts 29 = .ok (.istore 8, 2) := by decide +kernel
theorem dX2_accepts_31 : decode cX2_accepts 31 = .ok (.aload_n 0, 1) := by decide +kernel
theorem dX2_accepts_32 : decode cX2_accepts 32 = .ok (.iload 8, 2) := by decide +kernel
theorem dX2_accepts_34 : decode cX2_accepts 34 = .ok (.lload 4, 2) := by decide +kernel
theorem dX2_accepts_36 : decode cX2_accepts 36 = .ok (.iload 6, 2) := by decide +kernel
theorem dX2_accepts_38 : decode cX2_accepts 38 = .ok (.iload 7, 2) := by decide +kernel
theorem dX2_accepts_40 : decode cX2_accepts 40 = .ok (.invokevirtual 119, 3) := by decide +kernel
theorem dX2_accepts_43 : decode cX2_accepts 43 = .ok (.ireturn, 1) := by decide +kernel

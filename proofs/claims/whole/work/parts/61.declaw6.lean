/-! Decode rows of the law, by wip/whole/tools/names2.py. -/
theorem dL_law_1007 : decode code 1007 = .ok (.lshl, 1) := by decide +kernel
theorem dL_law_1008 : decode code 1008 = .ok (.aload_n 0, 1) := by decide +kernel
theorem dL_law_1009 : decode code 1009 = .ok (.iload 4, 2) := by decide +kernel
theorem dL_law_1011 : decode code 1011 = .ok (.iconst 3, 1) := by decide +kernel
theorem dL_law_1012 : decode code 1012 = .ok (.iadd, 1) := by decide +kernel
theorem dL_law_1013 : decode code 1013 = .ok (.iaload, 1) := by decide +kernel
theorem dL_law_1014 : decode code 1014 = .ok (.i2l, 1) := by decide +kernel
theorem dL_law_1015 : decode code 1015 = .ok (.ldc2_w 109, 3) := by decide +kernel
theorem dL_law_1018 : decode code 1018 = .ok (.land, 1) := by decide +kernel
theorem dL_law_1019 : decode code 1019 = .ok (.lor, 1) := by decide +kernel
theorem dL_law_1020 : decode code 1020 = .ok (.aload_n 0, 1) := by decide +kernel
theorem dL_law_1021 : decode code 1021 = .ok (.iload 4, 2) := by decide +kernel
theorem dL_law_1023 : decode code 1023 = .ok (.iconst 4, 1) := by decide +kernel
theorem dL_law_1024 : decode code 1024 = .ok (.iadd, 1) := by decide +kernel
theorem dL_law_1025 : decode code 1025 = .ok (.iaload, 1) := by decide +kernel
theorem dL_law_1026 : decode code 1026 = .ok (.i2l, 1) := by decide +kernel
theorem dL_law_1027 : decode code 1027 = .ok (.bipush 32, 2) := by decide +kernel
theorem dL_law_1029 : decode code 1029 = .ok (.lshl, 1) := by decide +kernel
theorem dL_law_1030 : decode code 1030 = .ok (.aload_n 0, 1) := by decide +kernel
theorem dL_law_1031 : decode code 1031 = .ok (.iload 4, 2) := by decide +kernel
theorem dL_law_1033 : decode code 1033 = .ok (.iconst 5, 1) := by decide +kernel
theorem dL_law_1034 : decode code 1034 = .ok (.iadd, 1) := by decide +kernel
theorem dL_law_1035 : decode code 1035 = .ok (.iaload, 1) := by decide +kernel
theorem dL_law_1036 : decode code 1036 = .ok (.i2l, 1) := by decide +kernel
theorem dL_law_1037 : decode code 1037 = .ok (.ldc2_w 109, 3) := by decide +kernel
theorem dL_law_1040 : decode code 1040 = .ok (.land, 1) := by decide +kernel
theorem dL_law_1041 : decode code 1041 = .ok (.lor, 1) := by decide +kernel
theorem dL_law_1042 : decode code 1042 = .ok (.aload_n 0, 1) := by decide +kernel
theorem dL_law_1043 : decode code 1043 = .ok (.iload 4, 2) := by decide +kernel
theorem dL_law_1045 : decode code 1045 = .ok (.bipush 6, 2) := by decide +kernel
theorem dL_law_1047 : decode code 1047 = .ok (.iadd, 1) := by decide +kernel
theorem dL_law_1048 : decode code 1048 = .ok (.iaload, 1) := by decide +kernel
theorem dL_law_1049 : decode code 1049 = .ok (.aload_n 0, 1) := by decide +kernel
theorem dL_law_1050 : decode code 1050 = .ok (.iload 4, 2) := by decide +kernel
theorem dL_law_1052 : decode code 1052 = .ok (.bipush 7, 2) := by decide +kernel
theorem dL_law_1054 : decode code 1054 = .ok (.iadd, 1) := by decide +kernel
theorem dL_law_1055 : decode code 1055 = .ok (.iaload, 1) := by decide +kernel
theorem dL_law_1056 : decode code 1056 = .ok (.aload_n 3, 1) := by decide +kernel
theorem dL_law_1057 : decode code 1057 = .ok (.invokestatic 131, 3) := by decide +kernel
theorem dL_law_1060 : decode code 1060 = .ok (.istore 5, 2) := by decide +kernel
theorem dL_law_1062 : decode code 1062 = .ok (.aload_n 2, 1) := by decide +kernel
theorem dL_law_1063 : decode code 1063 = .ok (.aload_n 0, 1) := by decide +kernel
theorem dL_law_1064 : decode code 1064 = .ok (.iload 4, 2) := by decide +kernel
theorem dL_law_1066 : decode code 1066 = .ok (.iconst 1, 1) := by decide +kernel
theorem dL_law_1067 : decode code 1067 = .ok (.iadd, 1) := by decide +kernel
theorem dL_law_1068 : decode code 1068 = .ok (.iaload, 1) := by decide +kernel
theorem dL_law_1069 : decode code 1069 = .ok (.aload_n 0, 1) := by decide +kernel
theorem dL_law_1070 : decode code 1070 = .ok (.iload 4, 2) := by decide +kernel
theorem dL_law_1072 : decode code 1072 = .ok (.iconst 2, 1) := by decide +kernel
theorem dL_law_1073 : decode code 1073 = .ok (.iadd, 1) := by decide +kernel
theorem dL_law_1074 : decode code 1074 = .ok (.iaload, 1) := by decide +kernel
theorem dL_law_1075 : decode code 1075 = .ok (.i2l, 1) := by decide +kernel
theorem dL_law_1076 : decode code 1076 = .ok (.bipush 32, 2) := by decide +kernel
theorem dL_law_1078 : decode code 1078 = .ok (.lshl, 1) := by decide +kernel
theorem dL_law_1079 : decode code 1079 = .ok (.aload_n 0, 1) := by decide +kernel
theorem dL_law_1080 : decode code 1080 = .ok (.iload 4, 2) := by decide +kernel
theorem dL_law_1082 : decode code 1082 = .ok (.iconst 3, 1) := by decide +kernel
theorem dL_law_1083 : decode code 1083 = .ok (.iadd, 1) := by decide +kernel
theorem dL_law_1084 : decode code 1084 = .ok (.iaload, 1) := by decide +kernel
theorem dL_law_1085 : decode code 1085 = .ok (.i2l, 1) := by decide +kernel
theorem dL_law_1086 : decode code 1086 = .ok (.ldc2_w 109, 3) := by decide +kernel
theorem dL_law_1089 : decode code 1089 = .ok (.land, 1) := by decide +kernel
theorem dL_law_1090 : decode code 1090 = .ok (.lor, 1) := by decide +kernel
theorem dL_law_1091 : decode code 1091 = .ok (.aload_n 0, 1) := by decide +kernel
theorem dL_law_1092 : decode code 1092 = .ok (.iload 4, 2) := by decide +kernel
theorem dL_law_1094 : decode code 1094 = .ok (.iconst 4, 1) := by decide +kernel
theorem dL_law_1095 : decode code 1095 = .ok (.iadd, 1) := by decide +kernel
theorem dL_law_1096 : decode code 1096 = .ok (.iaload, 1) := by decide +kernel
theorem dL_law_1097 : decode code 1097 = .ok (.i2l, 1) := by decide +kernel
theorem dL_law_1098 : decode code 1098 = .ok (.bipush 32, 2) := by decide +kernel
theorem dL_law_1100 : decode code 1100 = .ok (.lshl, 1) := by decide +kernel
theorem dL_law_1101 : decode code 1101 = .ok (.aload_n 0, 1) := by decide +kernel
theorem dL_law_1102 : decode code 1102 = .ok (.iload 4, 2) := by decide +kernel
theorem dL_law_1104 : decode code 1104 = .ok (.iconst 5, 1) := by decide +kernel
theorem dL_law_1105 : decode code 1105 = .ok (.iadd, 1) := by decide +kernel
theorem dL_law_1106 : decode code 1106 = .ok (.iaload, 1) := by decide +kernel
theorem dL_law_1107 : decode code 1107 = .ok (.i2l, 1) := by decide +kernel
theorem dL_law_1108 : decode code 1108 = .ok (.ldc2_w 109, 3) := by decide +kernel
theorem dL_law_1111 : decode code 1111 = .ok (.land, 1) := by decide +kernel
theorem dL_law_1112 : decode code 1112 = .ok (.lor, 1) := by decide +kernel
theorem dL_law_1113 : decode code 1113 = .ok (.aload_n 0, 1) := by decide +kernel
theorem dL_law_1114 : decode code 1114 = .ok (.iload 4, 2) := by decide +kernel
theorem dL_law_1116 : decode code 1116 = .ok (.bipush 6, 2) := by decide +kernel
theorem dL_law_1118 : decode code 1118 = .ok (.iadd, 1) := by decide +kernel
theorem dL_law_1119 : decode code 1119 = .ok (.iaload, 1) := by decide +kernel
theorem dL_law_1120 : decode code 1120 = .ok (.aload_n 0, 1) := by decide +kernel
theorem dL_law_1121 : decode code 1121 = .ok (.iload 4, 2) := by decide +kernel
theorem dL_law_1123 : decode code 1123 = .ok (.bipush 7, 2) := by decide +kernel
theorem dL_law_1125 : decode code 1125 = .ok (.iadd, 1) := by decide +kernel
theorem dL_law_1126 : decode code 1126 = .ok (.iaload, 1) := by decide +kernel
theorem dL_law_1127 : decode code 1127 = .ok (.invokevirtual 134, 3) := by decide +kernel
theorem dL_law_1130 : decode code 1130 = .ok (.istore 6, 2) := by decide +kernel
theorem dL_law_1132 : decode code 1132 = .ok (.aload_n 2, 1) := by decide +kernel
theorem dL_law_1133 : decode code 1133 = .ok (.invokevirtual 76, 3) := by decide +kernel
theorem dL_law_1136 : decode code 1136 = .ok (.iload 5, 2) := by decide +kernel
theorem dL_law_1138 : decode code 1138 = .ok (.if_icmp .eq 5, 3) := by decide +kernel
theorem dL_law_1141 : decode code 1141 = .ok (.iconst 0, 1) := by decide +kernel
theorem dL_law_1142 : decode code 1142 = .ok (.ireturn, 1) := by decide +kernel
theorem dL_law_1143 : decode code 1143 = .ok (.iload 5, 2) := by decide +kernel
theorem dL_law_1145 : decode code 1145 = .ok (.ifCond .ne 22, 3) := by decide +kernel
theorem dL_law_1148 : decode code 1148 = .ok (.aload_n 3, 1) := by decide +kernel
theorem dL_law_1149 : decode code 1149 = .ok (.iconst 0, 1) := by decide +kernel
theorem dL_law_1150 : decode code 1150 = .ok (.laload, 1) := by decide +kernel
theorem dL_law_1151 : decode code 1151 = .ok (.iload 6, 2) := by decide +kernel
theorem dL_law_1153 : decode code 1153 = .ok (.ifCond .eq 7, 3) := by decide +kernel
theorem dL_law_1156 : decode code 1156 = .ok (.lconst 1, 1) := by decide +kernel
theorem dL_law_1157 : decode code 1157 = .ok (.goto 4, 3) := by decide +kernel
theorem dL_law_1160 : decode code 1160 = .ok (.lconst 0, 1) := by decide +kernel
theorem dL_law_1161 : decode code 1161 = .ok (.lcmp, 1) := by decide +kernel
theorem dL_law_1162 : decode code 1162 = .ok (.ifCond .eq 5, 3) := by decide +kernel
theorem dL_law_1165 : decode code 1165 = .ok (.iconst 0, 1) := by decide +kernel
theorem dL_law_1166 : decode code 1166 = .ok (.ireturn, 1) := by decide +kernel
theorem dL_law_1167 : decode code 1167 = .ok (.goto 3, 3) := by decide +kernel
theorem dL_law_1170 : decode code 1170 = .ok (.iinc 4 8, 3) := by decide +kernel
theorem dL_law_1173 : decode code 1173 = .ok (.goto (-1150), 3) := by decide +kernel
theorem dL_law_1176 : decode code 1176 = .ok (.iconst 1, 1) := by decide +kernel
theorem dL_law_1177 : decode code 1177 = .ok (.ireturn, 1) := by decide +kernel

theorem d_w_law_1002 : decode code 1002 = .ok (.ireturn, 1) := by decide +kernel
theorem d_w_law_1003 : decode code 1003 = .ok (.iload 5, 2) := by decide +kernel
theorem d_w_law_1005 : decode code 1005 = .ok (.ifCond .ne 15, 3) := by decide +kernel
theorem d_w_law_1008 : decode code 1008 = .ok (.aload_n 3, 1) := by decide +kernel
theorem d_w_law_1009 : decode code 1009 = .ok (.iconst 0, 1) := by decide +kernel
theorem d_w_law_1010 : decode code 1010 = .ok (.laload, 1) := by decide +kernel
theorem d_w_law_1011 : decode code 1011 = .ok (.iload 6, 2) := by decide +kernel
theorem d_w_law_1013 : decode code 1013 = .ok (.i2l, 1) := by decide +kernel
theorem d_w_law_1014 : decode code 1014 = .ok (.lcmp, 1) := by decide +kernel
theorem d_w_law_1015 : decode code 1015 = .ok (.ifCond .eq 5, 3) := by decide +kernel
theorem d_w_law_1018 : decode code 1018 = .ok (.iconst 0, 1) := by decide +kernel
theorem d_w_law_1019 : decode code 1019 = .ok (.ireturn, 1) := by decide +kernel
theorem d_w_law_1020 : decode code 1020 = .ok (.goto 163, 3) := by decide +kernel
theorem d_w_law_1023 : decode code 1023 = .ok (.aload_n 1, 1) := by decide +kernel
theorem d_w_law_1024 : decode code 1024 = .ok (.aload_n 0, 1) := by decide +kernel
theorem d_w_law_1025 : decode code 1025 = .ok (.iload 4, 2) := by decide +kernel
theorem d_w_law_1027 : decode code 1027 = .ok (.iconst 1, 1) := by decide +kernel
theorem d_w_law_1028 : decode code 1028 = .ok (.iadd, 1) := by decide +kernel
theorem d_w_law_1029 : decode code 1029 = .ok (.iaload, 1) := by decide +kernel
theorem d_w_law_1030 : decode code 1030 = .ok (.aload_n 0, 1) := by decide +kernel
theorem d_w_law_1031 : decode code 1031 = .ok (.iload 4, 2) := by decide +kernel
theorem d_w_law_1033 : decode code 1033 = .ok (.iconst 2, 1) := by decide +kernel
theorem d_w_law_1034 : decode code 1034 = .ok (.iadd, 1) := by decide +kernel
theorem d_w_law_1035 : decode code 1035 = .ok (.iaload, 1) := by decide +kernel
theorem d_w_law_1036 : decode code 1036 = .ok (.aload_n 3, 1) := by decide +kernel
theorem d_w_law_1037 : decode code 1037 = .ok (.invokestatic 138, 3) := by decide +kernel
theorem d_w_law_1040 : decode code 1040 = .ok (.istore 5, 2) := by decide +kernel
theorem d_w_law_1042 : decode code 1042 = .ok (.aload_n 2, 1) := by decide +kernel
theorem d_w_law_1043 : decode code 1043 = .ok (.aload_n 0, 1) := by decide +kernel
theorem d_w_law_1044 : decode code 1044 = .ok (.iload 4, 2) := by decide +kernel
theorem d_w_law_1046 : decode code 1046 = .ok (.iconst 1, 1) := by decide +kernel
theorem d_w_law_1047 : decode code 1047 = .ok (.iadd, 1) := by decide +kernel
theorem d_w_law_1048 : decode code 1048 = .ok (.iaload, 1) := by decide +kernel
theorem d_w_law_1049 : decode code 1049 = .ok (.aload_n 0, 1) := by decide +kernel
theorem d_w_law_1050 : decode code 1050 = .ok (.iload 4, 2) := by decide +kernel
theorem d_w_law_1052 : decode code 1052 = .ok (.iconst 2, 1) := by decide +kernel
theorem d_w_law_1053 : decode code 1053 = .ok (.iadd, 1) := by decide +kernel
theorem d_w_law_1054 : decode code 1054 = .ok (.iaload, 1) := by decide +kernel
theorem d_w_law_1055 : decode code 1055 = .ok (.invokevirtual 140, 3) := by decide +kernel
theorem d_w_law_1058 : decode code 1058 = .ok (.istore 6, 2) := by decide +kernel
theorem d_w_law_1060 : decode code 1060 = .ok (.aload_n 2, 1) := by decide +kernel
theorem d_w_law_1061 : decode code 1061 = .ok (.invokevirtual 87, 3) := by decide +kernel
theorem d_w_law_1064 : decode code 1064 = .ok (.iload 5, 2) := by decide +kernel
theorem d_w_law_1066 : decode code 1066 = .ok (.if_icmp .eq 5, 3) := by decide +kernel
theorem d_w_law_1069 : decode code 1069 = .ok (.iconst 0, 1) := by decide +kernel
theorem d_w_law_1070 : decode code 1070 = .ok (.ireturn, 1) := by decide +kernel
theorem d_w_law_1071 : decode code 1071 = .ok (.iload 5, 2) := by decide +kernel
theorem d_w_law_1073 : decode code 1073 = .ok (.ifCond .ne 15, 3) := by decide +kernel
theorem d_w_law_1076 : decode code 1076 = .ok (.aload_n 3, 1) := by decide +kernel
theorem d_w_law_1077 : decode code 1077 = .ok (.iconst 0, 1) := by decide +kernel
theorem d_w_law_1078 : decode code 1078 = .ok (.laload, 1) := by decide +kernel
theorem d_w_law_1079 : decode code 1079 = .ok (.iload 6, 2) := by decide +kernel
theorem d_w_law_1081 : decode code 1081 = .ok (.i2l, 1) := by decide +kernel
theorem d_w_law_1082 : decode code 1082 = .ok (.lcmp, 1) := by decide +kernel
theorem d_w_law_1083 : decode code 1083 = .ok (.ifCond .eq 5, 3) := by decide +kernel
theorem d_w_law_1086 : decode code 1086 = .ok (.iconst 0, 1) := by decide +kernel
theorem d_w_law_1087 : decode code 1087 = .ok (.ireturn, 1) := by decide +kernel
theorem d_w_law_1088 : decode code 1088 = .ok (.goto 95, 3) := by decide +kernel
theorem d_w_law_1091 : decode code 1091 = .ok (.aload_n 1, 1) := by decide +kernel
theorem d_w_law_1092 : decode code 1092 = .ok (.aload_n 0, 1) := by decide +kernel
theorem d_w_law_1093 : decode code 1093 = .ok (.iload 4, 2) := by decide +kernel
theorem d_w_law_1095 : decode code 1095 = .ok (.iconst 1, 1) := by decide +kernel
theorem d_w_law_1096 : decode code 1096 = .ok (.iadd, 1) := by decide +kernel
theorem d_w_law_1097 : decode code 1097 = .ok (.iaload, 1) := by decide +kernel
theorem d_w_law_1098 : decode code 1098 = .ok (.aload_n 0, 1) := by decide +kernel
theorem d_w_law_1099 : decode code 1099 = .ok (.iload 4, 2) := by decide +kernel
theorem d_w_law_1101 : decode code 1101 = .ok (.iconst 2, 1) := by decide +kernel
theorem d_w_law_1102 : decode code 1102 = .ok (.iadd, 1) := by decide +kernel
theorem d_w_law_1103 : decode code 1103 = .ok (.iaload, 1) := by decide +kernel
theorem d_w_law_1104 : decode code 1104 = .ok (.aload_n 3, 1) := by decide +kernel
theorem d_w_law_1105 : decode code 1105 = .ok (.invokestatic 141, 3) := by decide +kernel
theorem d_w_law_1108 : decode code 1108 = .ok (.istore 5, 2) := by decide +kernel
theorem d_w_law_1110 : decode code 1110 = .ok (.aload_n 2, 1) := by decide +kernel
theorem d_w_law_1111 : decode code 1111 = .ok (.aload_n 0, 1) := by decide +kernel
theorem d_w_law_1112 : decode code 1112 = .ok (.iload 4, 2) := by decide +kernel
theorem d_w_law_1114 : decode code 1114 = .ok (.iconst 1, 1) := by decide +kernel
theorem d_w_law_1115 : decode code 1115 = .ok (.iadd, 1) := by decide +kernel
theorem d_w_law_1116 : decode code 1116 = .ok (.iaload, 1) := by decide +kernel
theorem d_w_law_1117 : decode code 1117 = .ok (.aload_n 0, 1) := by decide +kernel
theorem d_w_law_1118 : decode code 1118 = .ok (.iload 4, 2) := by decide +kernel
theorem d_w_law_1120 : decode code 1120 = .ok (.iconst 2, 1) := by decide +kernel
theorem d_w_law_1121 : decode code 1121 = .ok (.iadd, 1) := by decide +kernel
theorem d_w_law_1122 : decode code 1122 = .ok (.iaload, 1) := by decide +kernel
theorem d_w_law_1123 : decode code 1123 = .ok (.invokevirtual 143, 3) := by decide +kernel
theorem d_w_law_1126 : decode code 1126 = .ok (.lstore 6, 2) := by decide +kernel
theorem d_w_law_1128 : decode code 1128 = .ok (.aload_n 2, 1) := by decide +kernel
theorem d_w_law_1129 : decode code 1129 = .ok (.invokevirtual 87, 3) := by decide +kernel
theorem d_w_law_1132 : decode code 1132 = .ok (.iload 5, 2) := by decide +kernel
theorem d_w_law_1134 : decode code 1134 = .ok (.if_icmp .eq 5, 3) := by decide +kernel
theorem d_w_law_1137 : decode code 1137 = .ok (.iconst 0, 1) := by decide +kernel
theorem d_w_law_1138 : decode code 1138 = .ok (.ireturn, 1) := by decide +kernel
theorem d_w_law_1139 : decode code 1139 = .ok (.iload 5, 2) := by decide +kernel
theorem d_w_law_1141 : decode code 1141 = .ok (.ifCond .ne 14, 3) := by decide +kernel
theorem d_w_law_1144 : decode code 1144 = .ok (.aload_n 3, 1) := by decide +kernel
theorem d_w_law_1145 : decode code 1145 = .ok (.iconst 0, 1) := by decide +kernel
theorem d_w_law_1146 : decode code 1146 = .ok (.laload, 1) := by decide +kernel
theorem d_w_law_1147 : decode code 1147 = .ok (.lload 6, 2) := by decide +kernel
theorem d_w_law_1149 : decode code 1149 = .ok (.lcmp, 1) := by decide +kernel
theorem d_w_law_1150 : decode code 1150 = .ok (.ifCond .eq 5, 3) := by decide +kernel
theorem d_w_law_1153 : decode code 1153 = .ok (.iconst 0, 1) := by decide +kernel
theorem d_w_law_1154 : decode code 1154 = .ok (.ireturn, 1) := by decide +kernel
theorem d_w_law_1155 : decode code 1155 = .ok (.goto 28, 3) := by decide +kernel
theorem d_w_law_1158 : decode code 1158 = .ok (.aload_n 1, 1) := by decide +kernel
theorem d_w_law_1159 : decode code 1159 = .ok (.aload_n 0, 1) := by decide +kernel
theorem d_w_law_1160 : decode code 1160 = .ok (.iload 4, 2) := by decide +kernel
theorem d_w_law_1162 : decode code 1162 = .ok (.iconst 1, 1) := by decide +kernel
theorem d_w_law_1163 : decode code 1163 = .ok (.iadd, 1) := by decide +kernel
theorem d_w_law_1164 : decode code 1164 = .ok (.iaload, 1) := by decide +kernel
theorem d_w_law_1165 : decode code 1165 = .ok (.invokevirtual 144, 3) := by decide +kernel
theorem d_w_law_1168 : decode code 1168 = .ok (.aload_n 2, 1) := by decide +kernel
theorem d_w_law_1169 : decode code 1169 = .ok (.aload_n 0, 1) := by decide +kernel
theorem d_w_law_1170 : decode code 1170 = .ok (.iload 4, 2) := by decide +kernel
theorem d_w_law_1172 : decode code 1172 = .ok (.iconst 1, 1) := by decide +kernel
theorem d_w_law_1173 : decode code 1173 = .ok (.iadd, 1) := by decide +kernel
theorem d_w_law_1174 : decode code 1174 = .ok (.iaload, 1) := by decide +kernel
theorem d_w_law_1175 : decode code 1175 = .ok (.invokevirtual 147, 3) := by decide +kernel
theorem d_w_law_1178 : decode code 1178 = .ok (.if_icmp .eq 5, 3) := by decide +kernel
theorem d_w_law_1181 : decode code 1181 = .ok (.iconst 0, 1) := by decide +kernel
theorem d_w_law_1182 : decode code 1182 = .ok (.ireturn, 1) := by decide +kernel
theorem d_w_law_1183 : decode code 1183 = .ok (.iinc 4 5, 3) := by decide +kernel

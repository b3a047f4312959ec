theorem dL_acts_982 : decode cL_acts 982 = .ok (.if_icmp .ge 177, 3) := by decide +kernel
theorem dL_acts_985 : decode cL_acts 985 = .ok (.iconst 1, 1) := by decide +kernel
theorem dL_acts_986 : decode cL_acts 986 = .ok (.iload 6, 2) := by decide +kernel
theorem dL_acts_988 : decode cL_acts 988 = .ok (.iconst 3, 1) := by decide +kernel
theorem dL_acts_989 : decode cL_acts 989 = .ok (.ishr, 1) := by decide +kernel
theorem dL_acts_990 : decode cL_acts 990 = .ok (.bipush 40, 2) := by decide +kernel
theorem dL_acts_992 : decode cL_acts 992 = .ok (.invokestatic 132, 3) := by decide +kernel
theorem dL_acts_995 : decode cL_acts 995 = .ok (.iadd, 1) := by decide +kernel
theorem dL_acts_996 : decode cL_acts 996 = .ok (.istore 11, 2) := by decide +kernel
theorem dL_acts_998 : decode cL_acts 998 = .ok (.aload_n 0, 1) := by decide +kernel
theorem dL_acts_999 : decode cL_acts 999 = .ok (.iload 9, 2) := by decide +kernel
theorem dL_acts_1001 : decode cL_acts 1001 = .ok (.invokestatic 85, 3) := by decide +kernel
theorem dL_acts_1004 : decode cL_acts 1004 = .ok (.istore 12, 2) := by decide +kernel
theorem dL_acts_1006 : decode cL_acts 1006 = .ok (.iload 12, 2) := by decide +kernel
theorem dL_acts_1008 : decode cL_acts 1008 = .ok (.ifCond .ge 34, 3) := by decide +kernel
theorem dL_acts_1011 : decode cL_acts 1011 = .ok (.aload_n 0, 1) := by decide +kernel
theorem dL_acts_1012 : decode cL_acts 1012 = .ok (.iload 9, 2) := by decide +kernel
theorem dL_acts_1014 : decode cL_acts 1014 = .ok (.iload 11, 2) := by decide +kernel
theorem dL_acts_1016 : decode cL_acts 1016 = .ok (.invokestatic 147, 3) := by decide +kernel
theorem dL_acts_1019 : decode cL_acts 1019 = .ok (.ldc 43, 2) := by decide +kernel
theorem dL_acts_1021 : decode cL_acts 1021 = .ok (.if_icmp .ne 19, 3) := by decide +kernel
theorem dL_acts_1024 : decode cL_acts 1024 = .ok (.aload_n 0, 1) := by decide +kernel
theorem dL_acts_1025 : decode cL_acts 1025 = .ok (.iload 9, 2) := by decide +kernel
theorem dL_acts_1027 : decode cL_acts 1027 = .ok (.iconst 0, 1) := by decide +kernel
theorem dL_acts_1028 : decode cL_acts 1028 = .ok (.invokestatic 147, 3) := by decide +kernel
theorem dL_acts_1031 : decode cL_acts 1031 = .ok (.ldc 21, 2) := by decide +kernel
theorem dL_acts_1033 : decode cL_acts 1033 = .ok (.if_icmp .ne 7, 3) := by decide +kernel
theorem dL_acts_1036 : decode cL_acts 1036 = .ok (.iconst 1, 1) := by decide +kernel
theorem dL_acts_1037 : decode cL_acts 1037 = .ok (.goto 4, 3) := by decide +kernel
theorem dL_acts_1040 : decode cL_acts 1040 = .ok (.iconst 0, 1) := by decide +kernel
theorem dL_acts_1041 : decode cL_acts 1041 = .ok (.ireturn, 1) := by decide +kernel
theorem dL_acts_1042 : decode cL_acts 1042 = .ok (.iload 12, 2) := by decide +kernel
theorem dL_acts_1044 : decode cL_acts 1044 = .ok (.bipush 100, 2) := by decide +kernel
theorem dL_acts_1046 : decode cL_acts 1046 = .ok (.irem, 1) := by decide +kernel
theorem dL_acts_1047 : decode cL_acts 1047 = .ok (.ifCond .ne 15, 3) := by decide +kernel
theorem dL_acts_1050 : decode cL_acts 1050 = .ok (.aload_n 0, 1) := by decide +kernel
theorem dL_acts_1051 : decode cL_acts 1051 = .ok (.iload 12, 2) := by decide +kernel
theorem dL_acts_1053 : decode cL_acts 1053 = .ok (.bipush 100, 2) := by decide +kernel
theorem dL_acts_1055 : decode cL_acts 1055 = .ok (.idiv, 1) := by decide +kernel
theorem dL_acts_1056 : decode cL_acts 1056 = .ok (.invokestatic 90, 3) := by decide +kernel
theorem dL_acts_1059 : decode cL_acts 1059 = .ok (.goto 19, 3) := by decide +kernel
theorem dL_acts_1062 : decode cL_acts 1062 = .ok (.aload_n 0, 1) := by decide +kernel
theorem dL_acts_1063 : decode cL_acts 1063 = .ok (.iload 12, 2) := by decide +kernel
theorem dL_acts_1065 : decode cL_acts 1065 = .ok (.bipush 100, 2) := by decide +kernel
theorem dL_acts_1067 : decode cL_acts 1067 = .ok (.idiv, 1) := by decide +kernel
theorem dL_acts_1068 : decode cL_acts 1068 = .ok (.iload 12, 2) := by decide +kernel
theorem dL_acts_1070 : decode cL_acts 1070 = .ok (.bipush 100, 2) := by decide +kernel
theorem dL_acts_1072 : decode cL_acts 1072 = .ok (.irem, 1) := by decide +kernel
theorem dL_acts_1073 : decode cL_acts 1073 = .ok (.iconst 1, 1) := by decide +kernel
theorem dL_acts_1074 : decode cL_acts 1074 = .ok (.isub, 1) := by decide +kernel
theorem dL_acts_1075 : decode cL_acts 1075 = .ok (.invokestatic 99, 3) := by decide +kernel
theorem dL_acts_1078 : decode cL_acts 1078 = .ok (.istore 13, 2) := by decide +kernel
theorem dL_acts_1080 : decode cL_acts 1080 = .ok (.aload_n 3, 1) := by decide +kernel
theorem dL_acts_1081 : decode cL_acts 1081 = .ok (.iconst 4, 1) := by decide +kernel
theorem dL_acts_1082 : decode cL_acts 1082 = .ok (.iload 12, 2) := by decide +kernel
theorem dL_acts_1084 : decode cL_acts 1084 = .ok (.bipush 100, 2) := by decide +kernel
theorem dL_acts_1086 : decode cL_acts 1086 = .ok (.idiv, 1) := by decide +kernel
theorem dL_acts_1087 : decode cL_acts 1087 = .ok (.imul, 1) := by decide +kernel
theorem dL_acts_1088 : decode cL_acts 1088 = .ok (.iconst 3, 1) := by decide +kernel
theorem dL_acts_1089 : decode cL_acts 1089 = .ok (.iadd, 1) := by decide +kernel
theorem dL_acts_1090 : decode cL_acts 1090 = .ok (.dup2, 1) := by decide +kernel
theorem dL_acts_1091 : decode cL_acts 1091 = .ok (.iaload, 1) := by decide +kernel
theorem dL_acts_1092 : decode cL_acts 1092 = .ok (.iload 11, 2) := by decide +kernel
theorem dL_acts_1094 : decode cL_acts 1094 = .ok (.iadd, 1) := by decide +kernel
theorem dL_acts_1095 : decode cL_acts 1095 = .ok (.iastore, 1) := by decide +kernel
theorem dL_acts_1096 : decode cL_acts 1096 = .ok (.aload_n 0, 1) := by decide +kernel
theorem dL_acts_1097 : decode cL_acts 1097 = .ok (.iload 9, 2) := by decide +kernel
theorem dL_acts_1099 : decode cL_acts 1099 = .ok (.iload 11, 2) := by decide +kernel
theorem dL_acts_1101 : decode cL_acts 1101 = .ok (.invokestatic 147, 3) := by decide +kernel
theorem dL_acts_1104 : decode cL_acts 1104 = .ok (.iload 13, 2) := by decide +kernel
theorem dL_acts_1106 : decode cL_acts 1106 = .ok (.iload 11, 2) := by decide +kernel
theorem dL_acts_1108 : decode cL_acts 1108 = .ok (.iadd, 1) := by decide +kernel
theorem dL_acts_1109 : decode cL_acts 1109 = .ok (.if_icmp .ne 48, 3) := by decide +kernel
theorem dL_acts_1112 : decode cL_acts 1112 = .ok (.aload_n 1, 1) := by decide +kernel
theorem dL_acts_1113 : decode cL_acts 1113 = .ok (.iload 9, 2) := by decide +kernel
theorem dL_acts_1115 : decode cL_acts 1115 = .ok (.iload 11, 2) := by decide +kernel
theorem dL_acts_1117 : decode cL_acts 1117 = .ok (.invokestatic 147, 3) := by decide +kernel
theorem dL_acts_1120 : decode cL_acts 1120 = .ok (.iload 13, 2) := by decide +kernel
theorem dL_acts_1122 : decode cL_acts 1122 = .ok (.iload 11, 2) := by decide +kernel
theorem dL_acts_1124 : decode cL_acts 1124 = .ok (.iadd, 1) := by decide +kernel
theorem dL_acts_1125 : decode cL_acts 1125 = .ok (.if_icmp .ne 32, 3) := by decide +kernel
theorem dL_acts_1128 : decode cL_acts 1128 = .ok (.aload_n 0, 1) := by decide +kernel
theorem dL_acts_1129 : decode cL_acts 1129 = .ok (.iload 9, 2) := by decide +kernel
theorem dL_acts_1131 : decode cL_acts 1131 = .ok (.sipush 1001, 3) := by decide +kernel
theorem dL_acts_1134 : decode cL_acts 1134 = .ok (.invokestatic 147, 3) := by decide +kernel
theorem dL_acts_1137 : decode cL_acts 1137 = .ok (.ldc 21, 2) := by decide +kernel
theorem dL_acts_1139 : decode cL_acts 1139 = .ok (.if_icmp .ne 18, 3) := by decide +kernel
theorem dL_acts_1142 : decode cL_acts 1142 = .ok (.aload_n 0, 1) := by decide +kernel
theorem dL_acts_1143 : decode cL_acts 1143 = .ok (.iconst 4, 1) := by decide +kernel
theorem dL_acts_1144 : decode cL_acts 1144 = .ok (.iconst 0, 1) := by decide +kernel
theorem dL_acts_1145 : decode cL_acts 1145 = .ok (.invokestatic 147, 3) := by decide +kernel
theorem dL_acts_1148 : decode cL_acts 1148 = .ok (.ldc 18, 2) := by decide +kernel
theorem dL_acts_1150 : decode cL_acts 1150 = .ok (.if_icmp .ne 7, 3) := by decide +kernel
theorem dL_acts_1153 : decode cL_acts 1153 = .ok (.iconst 1, 1) := by decide +kernel
theorem dL_acts_1154 : decode cL_acts 1154 = .ok (.goto 4, 3) := by decide +kernel
theorem dL_acts_1157 : decode cL_acts 1157 = .ok (.iconst 0, 1) := by decide +kernel
theorem dL_acts_1158 : decode cL_acts 1158 = .ok (.ireturn, 1) := by decide +kernel
theorem dL_acts_1159 : decode cL_acts 1159 = .ok (.iload 7, 2) := by decide +kernel
theorem dL_acts_1161 : decode cL_acts 1161 = .ok (.bipush 18, 2) := by decide +kernel
theorem dL_acts_1163 : decode cL_acts 1163 = .ok (.if_icmp .ge 125, 3) := by decide +kernel
theorem dL_acts_1166 : decode cL_acts 1166 = .ok (.iconst 1, 1) := by decide +kernel
theorem dL_acts_1167 : decode cL_acts 1167 = .ok (.iload 6, 2) := by decide +kernel
theorem dL_acts_1169 : decode cL_acts 1169 = .ok (.iload 5, 2) := by decide +kernel
theorem dL_acts_1171 : decode cL_acts 1171 = .ok (.bipush 7, 2) := by decide +kernel
theorem dL_acts_1173 : decode cL_acts 1173 = .ok (.ishr, 1) := by decide +kernel
theorem dL_acts_1174 : decode cL_acts 1174 = .ok (.iconst 4, 1) := by decide +kernel
theorem dL_acts_1175 : decode cL_acts 1175 = .ok (.invokestatic 132, 3) := by decide +kernel
theorem dL_acts_1178 : decode cL_acts 1178 = .ok (.ifCond .ne 8, 3) := by decide +kernel
theorem dL_acts_1181 : decode cL_acts 1181 = .ok (.bipush 100, 2) := by decide +kernel
theorem dL_acts_1183 : decode cL_acts 1183 = .ok (.goto 5, 3) := by decide +kernel
theorem dL_acts_1186 : decode cL_acts 1186 = .ok (.bipush 8, 2) := by decide +kernel
theorem dL_acts_1188 : decode cL_acts 1188 = .ok (.invokestatic 132, 3) := by decide +kernel
theorem dL_acts_1191 : decode cL_acts 1191 = .ok (.iadd, 1) := by decide +kernel
theorem dL_acts_1192 : decode cL_acts 1192 = .ok (.istore 11, 2) := by decide +kernel
theorem dL_acts_1194 : decode cL_acts 1194 = .ok (.aload 4, 2) := by decide +kernel
theorem dL_acts_1196 : decode cL_acts 1196 = .ok (.iconst 0, 1) := by decide +kernel
theorem dL_acts_1197 : decode cL_acts 1197 = .ok (.iaload, 1) := by decide +kernel
theorem dL_acts_1198 : decode cL_acts 1198 = .ok (.iload 11, 2) := by decide +kernel
theorem dL_acts_1200 : decode cL_acts 1200 = .ok (.iadd, 1) := by decide +kernel
theorem dL_acts_1201 : decode cL_acts 1201 = .ok (.sipush 5000, 3) := by decide +kernel
theorem dL_acts_1204 : decode cL_acts 1204 = .ok (.if_icmp .le 8, 3) := by decide +kernel
theorem dL_acts_1207 : decode cL_acts 1207 = .ok (.ldc 43, 2) := by decide +kernel
theorem dL_acts_1209 : decode cL_acts 1209 = .ok (.goto 10, 3) := by decide +kernel
theorem dL_acts_1212 : decode cL_acts 1212 = .ok (.aload 4, 2) := by decide +kernel
theorem dL_acts_1214 : decode cL_acts 1214 = .ok (.iconst 0, 1) := by decide +kernel
theorem dL_acts_1215 : decode cL_acts 1215 = .ok (.iaload, 1) := by decide +kernel
theorem dL_acts_1216 : decode cL_acts 1216 = .ok (.iload 11, 2) := by decide +kernel
theorem dL_acts_1218 : decode cL_acts 1218 = .ok (.iadd, 1) := by decide +kernel
theorem dL_acts_1219 : decode cL_acts 1219 = .ok (.istore 12, 2) := by decide +kernel
theorem dL_acts_1221 : decode cL_acts 1221 = .ok (.aload 4, 2) := by decide +kernel
theorem dL_acts_1223 : decode cL_acts 1223 = .ok (.iconst 0, 1) := by decide +kernel
theorem dL_acts_1224 : decode cL_acts 1224 = .ok (.iload 12, 2) := by decide +kernel
theorem dL_acts_1226 : decode cL_acts 1226 = .ok (.ifCond .ge 10, 3) := by decide +kernel
theorem dL_acts_1229 : decode cL_acts 1229 = .ok (.aload 4, 2) := by decide +kernel
theorem dL_acts_1231 : decode cL_acts 1231 = .ok (.iconst 0, 1) := by decide +kernel
theorem dL_acts_1232 : decode cL_acts 1232 = .ok (.iaload, 1) := by decide +kernel
theorem dL_acts_1233 : decode cL_acts 1233 = .ok (.goto 5, 3) := by decide +kernel
theorem dL_acts_1236 : decode cL_acts 1236 = .ok (.iload 12, 2) := by decide +kernel
theorem dL_acts_1238 : decode cL_acts 1238 = .ok (.iastore, 1) := by decide +kernel
theorem dL_acts_1239 : decode cL_acts 1239 = .ok (.aload_n 0, 1) := by decide +kernel

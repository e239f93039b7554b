/-! the law: what its bytes are, 13 -/
theorem dL_law_1091 : decode code 1091 = .ok (.invokevirtual 150, 3) := by decide +kernel
theorem dL_law_1094 : decode code 1094 = .ok (.aload_n 2, 1) := by decide +kernel
theorem dL_law_1095 : decode code 1095 = .ok (.aload_n 0, 1) := by decide +kernel
theorem dL_law_1096 : decode code 1096 = .ok (.iload_n 3, 1) := by decide +kernel
theorem dL_law_1097 : decode code 1097 = .ok (.iconst 1, 1) := by decide +kernel
theorem dL_law_1098 : decode code 1098 = .ok (.iadd, 1) := by decide +kernel
theorem dL_law_1099 : decode code 1099 = .ok (.iaload, 1) := by decide +kernel
theorem dL_law_1100 : decode code 1100 = .ok (.invokevirtual 153, 3) := by decide +kernel
theorem dL_law_1103 : decode code 1103 = .ok (.if_icmp .eq 55, 3) := by decide +kernel
theorem dL_law_1106 : decode code 1106 = .ok (.iconst 0, 1) := by decide +kernel
theorem dL_law_1107 : decode code 1107 = .ok (.ireturn, 1) := by decide +kernel
theorem dL_law_1108 : decode code 1108 = .ok (.aload_n 1, 1) := by decide +kernel
theorem dL_law_1109 : decode code 1109 = .ok (.invokevirtual 154, 3) := by decide +kernel
theorem dL_law_1112 : decode code 1112 = .ok (.aload_n 2, 1) := by decide +kernel
theorem dL_law_1113 : decode code 1113 = .ok (.invokevirtual 157, 3) := by decide +kernel
theorem dL_law_1116 : decode code 1116 = .ok (.if_icmp .eq 42, 3) := by decide +kernel
theorem dL_law_1119 : decode code 1119 = .ok (.iconst 0, 1) := by decide +kernel
theorem dL_law_1120 : decode code 1120 = .ok (.ireturn, 1) := by decide +kernel
theorem dL_law_1121 : decode code 1121 = .ok (.aload_n 1, 1) := by decide +kernel
theorem dL_law_1122 : decode code 1122 = .ok (.aload_n 0, 1) := by decide +kernel
theorem dL_law_1123 : decode code 1123 = .ok (.iload_n 3, 1) := by decide +kernel
theorem dL_law_1124 : decode code 1124 = .ok (.iconst 1, 1) := by decide +kernel
theorem dL_law_1125 : decode code 1125 = .ok (.iadd, 1) := by decide +kernel
theorem dL_law_1126 : decode code 1126 = .ok (.iaload, 1) := by decide +kernel
theorem dL_law_1127 : decode code 1127 = .ok (.invokevirtual 158, 3) := by decide +kernel
theorem dL_law_1130 : decode code 1130 = .ok (.aload_n 2, 1) := by decide +kernel
theorem dL_law_1131 : decode code 1131 = .ok (.aload_n 0, 1) := by decide +kernel
theorem dL_law_1132 : decode code 1132 = .ok (.iload_n 3, 1) := by decide +kernel
theorem dL_law_1133 : decode code 1133 = .ok (.iconst 1, 1) := by decide +kernel
theorem dL_law_1134 : decode code 1134 = .ok (.iadd, 1) := by decide +kernel
theorem dL_law_1135 : decode code 1135 = .ok (.iaload, 1) := by decide +kernel
theorem dL_law_1136 : decode code 1136 = .ok (.invokevirtual 161, 3) := by decide +kernel
theorem dL_law_1139 : decode code 1139 = .ok (.if_icmp .eq 19, 3) := by decide +kernel
theorem dL_law_1142 : decode code 1142 = .ok (.iconst 0, 1) := by decide +kernel
theorem dL_law_1143 : decode code 1143 = .ok (.ireturn, 1) := by decide +kernel
theorem dL_law_1144 : decode code 1144 = .ok (.aload_n 1, 1) := by decide +kernel
theorem dL_law_1145 : decode code 1145 = .ok (.invokevirtual 162, 3) := by decide +kernel
theorem dL_law_1148 : decode code 1148 = .ok (.aload_n 2, 1) := by decide +kernel
theorem dL_law_1149 : decode code 1149 = .ok (.invokevirtual 166, 3) := by decide +kernel
theorem dL_law_1152 : decode code 1152 = .ok (.lcmp, 1) := by decide +kernel
theorem dL_law_1153 : decode code 1153 = .ok (.ifCond .eq 5, 3) := by decide +kernel
theorem dL_law_1156 : decode code 1156 = .ok (.iconst 0, 1) := by decide +kernel
theorem dL_law_1157 : decode code 1157 = .ok (.ireturn, 1) := by decide +kernel
theorem dL_law_1158 : decode code 1158 = .ok (.iinc 3 5, 3) := by decide +kernel
theorem dL_law_1161 : decode code 1161 = .ok (.goto (-1143), 3) := by decide +kernel
theorem dL_law_1164 : decode code 1164 = .ok (.iconst 1, 1) := by decide +kernel
theorem dL_law_1165 : decode code 1165 = .ok (.ireturn, 1) := by decide +kernel

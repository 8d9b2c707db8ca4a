/-! the law decoded -/
theorem dl_1090 : decode code 1090 = .ok (.iaload, 1) := by decide +kernel
theorem dl_1091 : decode code 1091 = .ok (.aload_n 0, 1) := by decide +kernel
theorem dl_1092 : decode code 1092 = .ok (.iload_n 3, 1) := by decide +kernel
theorem dl_1093 : decode code 1093 = .ok (.iconst 2, 1) := by decide +kernel
theorem dl_1094 : decode code 1094 = .ok (.iadd, 1) := by decide +kernel
theorem dl_1095 : decode code 1095 = .ok (.iaload, 1) := by decide +kernel
theorem dl_1096 : decode code 1096 = .ok (.aload_n 0, 1) := by decide +kernel
theorem dl_1097 : decode code 1097 = .ok (.iload_n 3, 1) := by decide +kernel
theorem dl_1098 : decode code 1098 = .ok (.iconst 3, 1) := by decide +kernel
theorem dl_1099 : decode code 1099 = .ok (.iadd, 1) := by decide +kernel
theorem dl_1100 : decode code 1100 = .ok (.iaload, 1) := by decide +kernel
theorem dl_1101 : decode code 1101 = .ok (.invokevirtual 134, 3) := by decide +kernel
theorem dl_1104 : decode code 1104 = .ok (.if_icmp .eq 51, 3) := by decide +kernel
theorem dl_1107 : decode code 1107 = .ok (.iconst 0, 1) := by decide +kernel
theorem dl_1108 : decode code 1108 = .ok (.ireturn, 1) := by decide +kernel
theorem dl_1109 : decode code 1109 = .ok (.aload_n 1, 1) := by decide +kernel
theorem dl_1110 : decode code 1110 = .ok (.aload_n 0, 1) := by decide +kernel
theorem dl_1111 : decode code 1111 = .ok (.iload_n 3, 1) := by decide +kernel
theorem dl_1112 : decode code 1112 = .ok (.iconst 1, 1) := by decide +kernel
theorem dl_1113 : decode code 1113 = .ok (.iadd, 1) := by decide +kernel
theorem dl_1114 : decode code 1114 = .ok (.iaload, 1) := by decide +kernel
theorem dl_1115 : decode code 1115 = .ok (.invokevirtual 135, 3) := by decide +kernel
theorem dl_1118 : decode code 1118 = .ok (.aload_n 2, 1) := by decide +kernel
theorem dl_1119 : decode code 1119 = .ok (.aload_n 0, 1) := by decide +kernel
theorem dl_1120 : decode code 1120 = .ok (.iload_n 3, 1) := by decide +kernel
theorem dl_1121 : decode code 1121 = .ok (.iconst 1, 1) := by decide +kernel
theorem dl_1122 : decode code 1122 = .ok (.iadd, 1) := by decide +kernel
theorem dl_1123 : decode code 1123 = .ok (.iaload, 1) := by decide +kernel
theorem dl_1124 : decode code 1124 = .ok (.invokevirtual 138, 3) := by decide +kernel
theorem dl_1127 : decode code 1127 = .ok (.if_icmp .eq 28, 3) := by decide +kernel
theorem dl_1130 : decode code 1130 = .ok (.iconst 0, 1) := by decide +kernel
theorem dl_1131 : decode code 1131 = .ok (.ireturn, 1) := by decide +kernel
theorem dl_1132 : decode code 1132 = .ok (.aload_n 1, 1) := by decide +kernel
theorem dl_1133 : decode code 1133 = .ok (.aload_n 0, 1) := by decide +kernel
theorem dl_1134 : decode code 1134 = .ok (.iload_n 3, 1) := by decide +kernel
theorem dl_1135 : decode code 1135 = .ok (.iconst 1, 1) := by decide +kernel
theorem dl_1136 : decode code 1136 = .ok (.iadd, 1) := by decide +kernel
theorem dl_1137 : decode code 1137 = .ok (.iaload, 1) := by decide +kernel
theorem dl_1138 : decode code 1138 = .ok (.invokevirtual 139, 3) := by decide +kernel
theorem dl_1141 : decode code 1141 = .ok (.aload_n 2, 1) := by decide +kernel
theorem dl_1142 : decode code 1142 = .ok (.aload_n 0, 1) := by decide +kernel
theorem dl_1143 : decode code 1143 = .ok (.iload_n 3, 1) := by decide +kernel
theorem dl_1144 : decode code 1144 = .ok (.iconst 1, 1) := by decide +kernel
theorem dl_1145 : decode code 1145 = .ok (.iadd, 1) := by decide +kernel
theorem dl_1146 : decode code 1146 = .ok (.iaload, 1) := by decide +kernel
theorem dl_1147 : decode code 1147 = .ok (.invokevirtual 142, 3) := by decide +kernel
theorem dl_1150 : decode code 1150 = .ok (.if_icmp .eq 5, 3) := by decide +kernel
theorem dl_1153 : decode code 1153 = .ok (.iconst 0, 1) := by decide +kernel
theorem dl_1154 : decode code 1154 = .ok (.ireturn, 1) := by decide +kernel
theorem dl_1155 : decode code 1155 = .ok (.iinc 3 6, 3) := by decide +kernel
theorem dl_1158 : decode code 1158 = .ok (.goto (-1140), 3) := by decide +kernel
theorem dl_1161 : decode code 1161 = .ok (.iconst 1, 1) := by decide +kernel
theorem dl_1162 : decode code 1162 = .ok (.ireturn, 1) := by decide +kernel

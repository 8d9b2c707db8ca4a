/-! the law decoded -/
theorem dl_0 : decode code 0 = .ok (.new 7, 3) := by decide +kernel
theorem dl_3 : decode code 3 = .ok (.dup, 1) := by decide +kernel
theorem dl_4 : decode code 4 = .ok (.invokespecial 9, 3) := by decide +kernel
theorem dl_7 : decode code 7 = .ok (.astore_n 1, 1) := by decide +kernel
theorem dl_8 : decode code 8 = .ok (.new 10, 3) := by decide +kernel
theorem dl_11 : decode code 11 = .ok (.dup, 1) := by decide +kernel
theorem dl_12 : decode code 12 = .ok (.invokespecial 12, 3) := by decide +kernel
theorem dl_15 : decode code 15 = .ok (.astore_n 2, 1) := by decide +kernel
theorem dl_16 : decode code 16 = .ok (.iconst 0, 1) := by decide +kernel
theorem dl_17 : decode code 17 = .ok (.istore_n 3, 1) := by decide +kernel
theorem dl_18 : decode code 18 = .ok (.iload_n 3, 1) := by decide +kernel
theorem dl_19 : decode code 19 = .ok (.aload_n 0, 1) := by decide +kernel
theorem dl_20 : decode code 20 = .ok (.arraylength, 1) := by decide +kernel
theorem dl_21 : decode code 21 = .ok (.bipush 6, 2) := by decide +kernel
theorem dl_23 : decode code 23 = .ok (.isub, 1) := by decide +kernel
theorem dl_24 : decode code 24 = .ok (.if_icmp .gt 1137, 3) := by decide +kernel
theorem dl_27 : decode code 27 = .ok (.aload_n 0, 1) := by decide +kernel
theorem dl_28 : decode code 28 = .ok (.iload_n 3, 1) := by decide +kernel
theorem dl_29 : decode code 29 = .ok (.iaload, 1) := by decide +kernel
theorem dl_30 : decode code 30 = .ok (.bipush 31, 2) := by decide +kernel
theorem dl_32 : decode code 32 = .ok (.iand, 1) := by decide +kernel
theorem dl_33 : decode code 33 = .ok (.tableswitch 1122 0 30 #[139, 162, 175, 188, 201, 244, 287, 320, 373, 426, 449, 482, 525, 548, 561, 574, 597, 620, 683, 706, 749, 772, 815, 838, 851, 894, 947, 990, 1033, 1076, 1099], 139) := by decide +kernel
theorem dl_172 : decode code 172 = .ok (.aload_n 1, 1) := by decide +kernel
theorem dl_173 : decode code 173 = .ok (.aload_n 0, 1) := by decide +kernel
theorem dl_174 : decode code 174 = .ok (.iload_n 3, 1) := by decide +kernel
theorem dl_175 : decode code 175 = .ok (.iconst 1, 1) := by decide +kernel
theorem dl_176 : decode code 176 = .ok (.iadd, 1) := by decide +kernel
theorem dl_177 : decode code 177 = .ok (.iaload, 1) := by decide +kernel
theorem dl_178 : decode code 178 = .ok (.invokevirtual 13, 3) := by decide +kernel
theorem dl_181 : decode code 181 = .ok (.aload_n 2, 1) := by decide +kernel
theorem dl_182 : decode code 182 = .ok (.aload_n 0, 1) := by decide +kernel
theorem dl_183 : decode code 183 = .ok (.iload_n 3, 1) := by decide +kernel
theorem dl_184 : decode code 184 = .ok (.iconst 1, 1) := by decide +kernel
theorem dl_185 : decode code 185 = .ok (.iadd, 1) := by decide +kernel
theorem dl_186 : decode code 186 = .ok (.iaload, 1) := by decide +kernel
theorem dl_187 : decode code 187 = .ok (.invokevirtual 17, 3) := by decide +kernel
theorem dl_190 : decode code 190 = .ok (.if_icmp .eq 965, 3) := by decide +kernel
theorem dl_193 : decode code 193 = .ok (.iconst 0, 1) := by decide +kernel
theorem dl_194 : decode code 194 = .ok (.ireturn, 1) := by decide +kernel
theorem dl_195 : decode code 195 = .ok (.aload_n 1, 1) := by decide +kernel
theorem dl_196 : decode code 196 = .ok (.invokevirtual 18, 3) := by decide +kernel
theorem dl_199 : decode code 199 = .ok (.aload_n 2, 1) := by decide +kernel
theorem dl_200 : decode code 200 = .ok (.invokevirtual 22, 3) := by decide +kernel
theorem dl_203 : decode code 203 = .ok (.if_icmp .eq 952, 3) := by decide +kernel
theorem dl_206 : decode code 206 = .ok (.iconst 0, 1) := by decide +kernel
theorem dl_207 : decode code 207 = .ok (.ireturn, 1) := by decide +kernel
theorem dl_208 : decode code 208 = .ok (.aload_n 1, 1) := by decide +kernel
theorem dl_209 : decode code 209 = .ok (.invokevirtual 23, 3) := by decide +kernel
theorem dl_212 : decode code 212 = .ok (.aload_n 2, 1) := by decide +kernel
theorem dl_213 : decode code 213 = .ok (.invokevirtual 26, 3) := by decide +kernel
theorem dl_216 : decode code 216 = .ok (.if_icmp .eq 939, 3) := by decide +kernel
theorem dl_219 : decode code 219 = .ok (.iconst 0, 1) := by decide +kernel
theorem dl_220 : decode code 220 = .ok (.ireturn, 1) := by decide +kernel
theorem dl_221 : decode code 221 = .ok (.aload_n 1, 1) := by decide +kernel
theorem dl_222 : decode code 222 = .ok (.invokevirtual 27, 3) := by decide +kernel
theorem dl_225 : decode code 225 = .ok (.aload_n 2, 1) := by decide +kernel
theorem dl_226 : decode code 226 = .ok (.invokevirtual 30, 3) := by decide +kernel
theorem dl_229 : decode code 229 = .ok (.if_icmp .eq 926, 3) := by decide +kernel
theorem dl_232 : decode code 232 = .ok (.iconst 0, 1) := by decide +kernel
theorem dl_233 : decode code 233 = .ok (.ireturn, 1) := by decide +kernel
theorem dl_234 : decode code 234 = .ok (.aload_n 1, 1) := by decide +kernel
theorem dl_235 : decode code 235 = .ok (.aload_n 0, 1) := by decide +kernel
theorem dl_236 : decode code 236 = .ok (.iload_n 3, 1) := by decide +kernel
theorem dl_237 : decode code 237 = .ok (.iconst 1, 1) := by decide +kernel
theorem dl_238 : decode code 238 = .ok (.iadd, 1) := by decide +kernel
theorem dl_239 : decode code 239 = .ok (.iaload, 1) := by decide +kernel
theorem dl_240 : decode code 240 = .ok (.aload_n 0, 1) := by decide +kernel
theorem dl_241 : decode code 241 = .ok (.iload_n 3, 1) := by decide +kernel
theorem dl_242 : decode code 242 = .ok (.iconst 2, 1) := by decide +kernel
theorem dl_243 : decode code 243 = .ok (.iadd, 1) := by decide +kernel

/-! DECODE rows, by program -/
theorem d_L_cell_0 : decode b_L_cell 0 = .ok (.iload_n 1, 1) := by decide +kernel
theorem d_L_cell_1 : decode b_L_cell 1 = .ok (.aload_n 0, 1) := by decide +kernel
theorem d_L_cell_2 : decode b_L_cell 2 = .ok (.arraylength, 1) := by decide +kernel
theorem d_L_cell_3 : decode b_L_cell 3 = .ok (.if_icmp .ge 9, 3) := by decide +kernel
theorem d_L_cell_6 : decode b_L_cell 6 = .ok (.aload_n 0, 1) := by decide +kernel
theorem d_L_cell_7 : decode b_L_cell 7 = .ok (.iload_n 1, 1) := by decide +kernel
theorem d_L_cell_8 : decode b_L_cell 8 = .ok (.iaload, 1) := by decide +kernel
theorem d_L_cell_9 : decode b_L_cell 9 = .ok (.goto 4, 3) := by decide +kernel
theorem d_L_cell_12 : decode b_L_cell 12 = .ok (.iconst 0, 1) := by decide +kernel
theorem d_L_cell_13 : decode b_L_cell 13 = .ok (.ireturn, 1) := by decide +kernel
theorem d_L_lay_0 : decode b_L_lay 0 = .ok (.aload_n 0, 1) := by decide +kernel
theorem d_L_lay_1 : decode b_L_lay 1 = .ok (.iload_n 1, 1) := by decide +kernel
theorem d_L_lay_2 : decode b_L_lay 2 = .ok (.iload_n 2, 1) := by decide +kernel
theorem d_L_lay_3 : decode b_L_lay 3 = .ok (.invokevirtual 7, 3) := by decide +kernel
theorem d_L_lay_6 : decode b_L_lay 6 = .ok (.goto 9, 3) := by decide +kernel
theorem d_L_lay_9 : decode b_L_lay 9 = .ok (.astore_n 3, 1) := by decide +kernel
theorem d_L_lay_10 : decode b_L_lay 10 = .ok (.iconst 1, 1) := by decide +kernel
theorem d_L_lay_11 : decode b_L_lay 11 = .ok (.ireturn, 1) := by decide +kernel
theorem d_L_lay_12 : decode b_L_lay 12 = .ok (.astore_n 3, 1) := by decide +kernel
theorem d_L_lay_13 : decode b_L_lay 13 = .ok (.iconst 2, 1) := by decide +kernel
theorem d_L_lay_14 : decode b_L_lay 14 = .ok (.ireturn, 1) := by decide +kernel
theorem d_L_lay_15 : decode b_L_lay 15 = .ok (.iconst 0, 1) := by decide +kernel
theorem d_L_lay_16 : decode b_L_lay 16 = .ok (.ireturn, 1) := by decide +kernel
theorem d_L_lift_0 : decode b_L_lift 0 = .ok (.aload_n 0, 1) := by decide +kernel
theorem d_L_lift_1 : decode b_L_lift 1 = .ok (.iload_n 1, 1) := by decide +kernel
theorem d_L_lift_2 : decode b_L_lift 2 = .ok (.iload_n 2, 1) := by decide +kernel
theorem d_L_lift_3 : decode b_L_lift 3 = .ok (.invokevirtual 17, 3) := by decide +kernel
theorem d_L_lift_6 : decode b_L_lift 6 = .ok (.goto 9, 3) := by decide +kernel
theorem d_L_lift_9 : decode b_L_lift 9 = .ok (.astore_n 3, 1) := by decide +kernel
theorem d_L_lift_10 : decode b_L_lift 10 = .ok (.iconst 1, 1) := by decide +kernel
theorem d_L_lift_11 : decode b_L_lift 11 = .ok (.ireturn, 1) := by decide +kernel
theorem d_L_lift_12 : decode b_L_lift 12 = .ok (.astore_n 3, 1) := by decide +kernel
theorem d_L_lift_13 : decode b_L_lift 13 = .ok (.iconst 2, 1) := by decide +kernel
theorem d_L_lift_14 : decode b_L_lift 14 = .ok (.ireturn, 1) := by decide +kernel
theorem d_L_lift_15 : decode b_L_lift 15 = .ok (.iconst 0, 1) := by decide +kernel
theorem d_L_lift_16 : decode b_L_lift 16 = .ok (.ireturn, 1) := by decide +kernel
theorem d_L_signal_0 : decode b_L_signal 0 = .ok (.aload_n 0, 1) := by decide +kernel
theorem d_L_signal_1 : decode b_L_signal 1 = .ok (.iload_n 1, 1) := by decide +kernel
theorem d_L_signal_2 : decode b_L_signal 2 = .ok (.iload_n 2, 1) := by decide +kernel
theorem d_L_signal_3 : decode b_L_signal 3 = .ok (.iload_n 3, 1) := by decide +kernel
theorem d_L_signal_4 : decode b_L_signal 4 = .ok (.iload 4, 2) := by decide +kernel
theorem d_L_signal_6 : decode b_L_signal 6 = .ok (.invokevirtual 20, 3) := by decide +kernel
theorem d_L_signal_9 : decode b_L_signal 9 = .ok (.goto 11, 3) := by decide +kernel
theorem d_L_signal_12 : decode b_L_signal 12 = .ok (.astore 5, 2) := by decide +kernel
theorem d_L_signal_14 : decode b_L_signal 14 = .ok (.iconst 1, 1) := by decide +kernel
theorem d_L_signal_15 : decode b_L_signal 15 = .ok (.ireturn, 1) := by decide +kernel
theorem d_L_signal_16 : decode b_L_signal 16 = .ok (.astore 5, 2) := by decide +kernel
theorem d_L_signal_18 : decode b_L_signal 18 = .ok (.iconst 2, 1) := by decide +kernel
theorem d_L_signal_19 : decode b_L_signal 19 = .ok (.ireturn, 1) := by decide +kernel
theorem d_L_signal_20 : decode b_L_signal 20 = .ok (.iconst 0, 1) := by decide +kernel
theorem d_L_signal_21 : decode b_L_signal 21 = .ok (.ireturn, 1) := by decide +kernel
theorem d_L_platform_0 : decode b_L_platform 0 = .ok (.aload_n 0, 1) := by decide +kernel
theorem d_L_platform_1 : decode b_L_platform 1 = .ok (.iload_n 1, 1) := by decide +kernel
theorem d_L_platform_2 : decode b_L_platform 2 = .ok (.iload_n 2, 1) := by decide +kernel
theorem d_L_platform_3 : decode b_L_platform 3 = .ok (.iload_n 3, 1) := by decide +kernel
theorem d_L_platform_4 : decode b_L_platform 4 = .ok (.invokevirtual 24, 3) := by decide +kernel
theorem d_L_platform_7 : decode b_L_platform 7 = .ok (.goto 11, 3) := by decide +kernel
theorem d_L_platform_10 : decode b_L_platform 10 = .ok (.astore 4, 2) := by decide +kernel
theorem d_L_platform_12 : decode b_L_platform 12 = .ok (.iconst 1, 1) := by decide +kernel
theorem d_L_platform_13 : decode b_L_platform 13 = .ok (.ireturn, 1) := by decide +kernel
theorem d_L_platform_14 : decode b_L_platform 14 = .ok (.astore 4, 2) := by decide +kernel
theorem d_L_platform_16 : decode b_L_platform 16 = .ok (.iconst 2, 1) := by decide +kernel
theorem d_L_platform_17 : decode b_L_platform 17 = .ok (.ireturn, 1) := by decide +kernel
theorem d_L_platform_18 : decode b_L_platform 18 = .ok (.iconst 0, 1) := by decide +kernel
theorem d_L_platform_19 : decode b_L_platform 19 = .ok (.ireturn, 1) := by decide +kernel
theorem d_L_law_0 : decode b_L_law 0 = .ok (.new 8, 3) := by decide +kernel
theorem d_L_law_3 : decode b_L_law 3 = .ok (.dup, 1) := by decide +kernel
theorem d_L_law_4 : decode b_L_law 4 = .ok (.aload_n 0, 1) := by decide +kernel
theorem d_L_law_5 : decode b_L_law 5 = .ok (.iconst 0, 1) := by decide +kernel
theorem d_L_law_6 : decode b_L_law 6 = .ok (.invokestatic 28, 3) := by decide +kernel
theorem d_L_law_9 : decode b_L_law 9 = .ok (.aload_n 0, 1) := by decide +kernel
theorem d_L_law_10 : decode b_L_law 10 = .ok (.iconst 1, 1) := by decide +kernel
theorem d_L_law_11 : decode b_L_law 11 = .ok (.invokestatic 28, 3) := by decide +kernel
theorem d_L_law_14 : decode b_L_law 14 = .ok (.invokespecial 34, 3) := by decide +kernel
theorem d_L_law_17 : decode b_L_law 17 = .ok (.astore_n 1, 1) := by decide +kernel
theorem d_L_law_18 : decode b_L_law 18 = .ok (.new 36, 3) := by decide +kernel
theorem d_L_law_21 : decode b_L_law 21 = .ok (.dup, 1) := by decide +kernel
theorem d_L_law_22 : decode b_L_law 22 = .ok (.aload_n 0, 1) := by decide +kernel
theorem d_L_law_23 : decode b_L_law 23 = .ok (.iconst 0, 1) := by decide +kernel
theorem d_L_law_24 : decode b_L_law 24 = .ok (.invokestatic 28, 3) := by decide +kernel
theorem d_L_law_27 : decode b_L_law 27 = .ok (.aload_n 0, 1) := by decide +kernel
theorem d_L_law_28 : decode b_L_law 28 = .ok (.iconst 1, 1) := by decide +kernel
theorem d_L_law_29 : decode b_L_law 29 = .ok (.invokestatic 28, 3) := by decide +kernel
theorem d_L_law_32 : decode b_L_law 32 = .ok (.invokespecial 38, 3) := by decide +kernel
theorem d_L_law_35 : decode b_L_law 35 = .ok (.astore_n 2, 1) := by decide +kernel
theorem d_L_law_36 : decode b_L_law 36 = .ok (.iconst 2, 1) := by decide +kernel
theorem d_L_law_37 : decode b_L_law 37 = .ok (.istore_n 3, 1) := by decide +kernel
theorem d_L_law_38 : decode b_L_law 38 = .ok (.iload_n 3, 1) := by decide +kernel
theorem d_L_law_39 : decode b_L_law 39 = .ok (.aload_n 0, 1) := by decide +kernel
theorem d_L_law_40 : decode b_L_law 40 = .ok (.arraylength, 1) := by decide +kernel
theorem d_L_law_41 : decode b_L_law 41 = .ok (.iconst 5, 1) := by decide +kernel
theorem d_L_law_42 : decode b_L_law 42 = .ok (.isub, 1) := by decide +kernel
theorem d_L_law_43 : decode b_L_law 43 = .ok (.if_icmp .gt 566, 3) := by decide +kernel
theorem d_L_law_46 : decode b_L_law 46 = .ok (.aload_n 0, 1) := by decide +kernel
theorem d_L_law_47 : decode b_L_law 47 = .ok (.iload_n 3, 1) := by decide +kernel
theorem d_L_law_48 : decode b_L_law 48 = .ok (.iaload, 1) := by decide +kernel
theorem d_L_law_49 : decode b_L_law 49 = .ok (.bipush 15, 2) := by decide +kernel
theorem d_L_law_51 : decode b_L_law 51 = .ok (.iand, 1) := by decide +kernel
theorem d_L_law_52 : decode b_L_law 52 = .ok (.tableswitch 551 0 12 #[68, 112, 156, 220, 274, 307, 340, 363, 396, 419, 452, 485, 528], 68) := by decide +kernel
theorem d_L_law_120 : decode b_L_law 120 = .ok (.aload_n 1, 1) := by decide +kernel
theorem d_L_law_121 : decode b_L_law 121 = .ok (.aload_n 0, 1) := by decide +kernel
theorem d_L_law_122 : decode b_L_law 122 = .ok (.iload_n 3, 1) := by decide +kernel
theorem d_L_law_123 : decode b_L_law 123 = .ok (.iconst 1, 1) := by decide +kernel
theorem d_L_law_124 : decode b_L_law 124 = .ok (.iadd, 1) := by decide +kernel
theorem d_L_law_125 : decode b_L_law 125 = .ok (.iaload, 1) := by decide +kernel
theorem d_L_law_126 : decode b_L_law 126 = .ok (.aload_n 0, 1) := by decide +kernel
theorem d_L_law_127 : decode b_L_law 127 = .ok (.iload_n 3, 1) := by decide +kernel
theorem d_L_law_128 : decode b_L_law 128 = .ok (.iconst 2, 1) := by decide +kernel
theorem d_L_law_129 : decode b_L_law 129 = .ok (.iadd, 1) := by decide +kernel
theorem d_L_law_130 : decode b_L_law 130 = .ok (.iaload, 1) := by decide +kernel
theorem d_L_law_131 : decode b_L_law 131 = .ok (.invokestatic 39, 3) := by decide +kernel
theorem d_L_law_134 : decode b_L_law 134 = .ok (.istore 4, 2) := by decide +kernel
theorem d_L_law_136 : decode b_L_law 136 = .ok (.aload_n 2, 1) := by decide +kernel
theorem d_L_law_137 : decode b_L_law 137 = .ok (.aload_n 0, 1) := by decide +kernel
theorem d_L_law_138 : decode b_L_law 138 = .ok (.iload_n 3, 1) := by decide +kernel
theorem d_L_law_139 : decode b_L_law 139 = .ok (.iconst 1, 1) := by decide +kernel
theorem d_L_law_140 : decode b_L_law 140 = .ok (.iadd, 1) := by decide +kernel
theorem d_L_law_141 : decode b_L_law 141 = .ok (.iaload, 1) := by decide +kernel
theorem d_L_law_142 : decode b_L_law 142 = .ok (.aload_n 0, 1) := by decide +kernel
theorem d_L_law_143 : decode b_L_law 143 = .ok (.iload_n 3, 1) := by decide +kernel
theorem d_L_law_144 : decode b_L_law 144 = .ok (.iconst 2, 1) := by decide +kernel
theorem d_L_law_145 : decode b_L_law 145 = .ok (.iadd, 1) := by decide +kernel
theorem d_L_law_146 : decode b_L_law 146 = .ok (.iaload, 1) := by decide +kernel
theorem d_L_law_147 : decode b_L_law 147 = .ok (.invokevirtual 42, 3) := by decide +kernel
theorem d_L_law_150 : decode b_L_law 150 = .ok (.aload_n 2, 1) := by decide +kernel
theorem d_L_law_151 : decode b_L_law 151 = .ok (.invokevirtual 43, 3) := by decide +kernel
theorem d_L_law_154 : decode b_L_law 154 = .ok (.iload 4, 2) := by decide +kernel
theorem d_L_law_156 : decode b_L_law 156 = .ok (.if_icmp .eq 5, 3) := by decide +kernel
theorem d_L_law_159 : decode b_L_law 159 = .ok (.iconst 0, 1) := by decide +kernel
theorem d_L_law_160 : decode b_L_law 160 = .ok (.ireturn, 1) := by decide +kernel
theorem d_L_law_161 : decode b_L_law 161 = .ok (.goto 442, 3) := by decide +kernel
theorem d_L_law_164 : decode b_L_law 164 = .ok (.aload_n 1, 1) := by decide +kernel
theorem d_L_law_165 : decode b_L_law 165 = .ok (.aload_n 0, 1) := by decide +kernel
theorem d_L_law_166 : decode b_L_law 166 = .ok (.iload_n 3, 1) := by decide +kernel
theorem d_L_law_167 : decode b_L_law 167 = .ok (.iconst 1, 1) := by decide +kernel
theorem d_L_law_168 : decode b_L_law 168 = .ok (.iadd, 1) := by decide +kernel
theorem d_L_law_169 : decode b_L_law 169 = .ok (.iaload, 1) := by decide +kernel
theorem d_L_law_170 : decode b_L_law 170 = .ok (.aload_n 0, 1) := by decide +kernel
theorem d_L_law_171 : decode b_L_law 171 = .ok (.iload_n 3, 1) := by decide +kernel
theorem d_L_law_172 : decode b_L_law 172 = .ok (.iconst 2, 1) := by decide +kernel
theorem d_L_law_173 : decode b_L_law 173 = .ok (.iadd, 1) := by decide +kernel
theorem d_L_law_174 : decode b_L_law 174 = .ok (.iaload, 1) := by decide +kernel
theorem d_L_law_175 : decode b_L_law 175 = .ok (.invokestatic 47, 3) := by decide +kernel
theorem d_L_law_178 : decode b_L_law 178 = .ok (.istore 4, 2) := by decide +kernel
theorem d_L_law_180 : decode b_L_law 180 = .ok (.aload_n 2, 1) := by decide +kernel
theorem d_L_law_181 : decode b_L_law 181 = .ok (.aload_n 0, 1) := by decide +kernel
theorem d_L_law_182 : decode b_L_law 182 = .ok (.iload_n 3, 1) := by decide +kernel
theorem d_L_law_183 : decode b_L_law 183 = .ok (.iconst 1, 1) := by decide +kernel
theorem d_L_law_184 : decode b_L_law 184 = .ok (.iadd, 1) := by decide +kernel
theorem d_L_law_185 : decode b_L_law 185 = .ok (.iaload, 1) := by decide +kernel
theorem d_L_law_186 : decode b_L_law 186 = .ok (.aload_n 0, 1) := by decide +kernel
theorem d_L_law_187 : decode b_L_law 187 = .ok (.iload_n 3, 1) := by decide +kernel
theorem d_L_law_188 : decode b_L_law 188 = .ok (.iconst 2, 1) := by decide +kernel
theorem d_L_law_189 : decode b_L_law 189 = .ok (.iadd, 1) := by decide +kernel
theorem d_L_law_190 : decode b_L_law 190 = .ok (.iaload, 1) := by decide +kernel
theorem d_L_law_191 : decode b_L_law 191 = .ok (.invokevirtual 49, 3) := by decide +kernel
theorem d_L_law_194 : decode b_L_law 194 = .ok (.aload_n 2, 1) := by decide +kernel
theorem d_L_law_195 : decode b_L_law 195 = .ok (.invokevirtual 43, 3) := by decide +kernel
theorem d_L_law_198 : decode b_L_law 198 = .ok (.iload 4, 2) := by decide +kernel
theorem d_L_law_200 : decode b_L_law 200 = .ok (.if_icmp .eq 5, 3) := by decide +kernel
theorem d_L_law_203 : decode b_L_law 203 = .ok (.iconst 0, 1) := by decide +kernel
theorem d_L_law_204 : decode b_L_law 204 = .ok (.ireturn, 1) := by decide +kernel
theorem d_L_law_205 : decode b_L_law 205 = .ok (.goto 398, 3) := by decide +kernel
theorem d_L_law_208 : decode b_L_law 208 = .ok (.aload_n 1, 1) := by decide +kernel
theorem d_L_law_209 : decode b_L_law 209 = .ok (.aload_n 0, 1) := by decide +kernel
theorem d_L_law_210 : decode b_L_law 210 = .ok (.iload_n 3, 1) := by decide +kernel
theorem d_L_law_211 : decode b_L_law 211 = .ok (.iconst 1, 1) := by decide +kernel
theorem d_L_law_212 : decode b_L_law 212 = .ok (.iadd, 1) := by decide +kernel
theorem d_L_law_213 : decode b_L_law 213 = .ok (.iaload, 1) := by decide +kernel
theorem d_L_law_214 : decode b_L_law 214 = .ok (.aload_n 0, 1) := by decide +kernel
theorem d_L_law_215 : decode b_L_law 215 = .ok (.iload_n 3, 1) := by decide +kernel
theorem d_L_law_216 : decode b_L_law 216 = .ok (.iconst 2, 1) := by decide +kernel
theorem d_L_law_217 : decode b_L_law 217 = .ok (.iadd, 1) := by decide +kernel
theorem d_L_law_218 : decode b_L_law 218 = .ok (.iaload, 1) := by decide +kernel
theorem d_L_law_219 : decode b_L_law 219 = .ok (.aload_n 0, 1) := by decide +kernel
theorem d_L_law_220 : decode b_L_law 220 = .ok (.iload_n 3, 1) := by decide +kernel
theorem d_L_law_221 : decode b_L_law 221 = .ok (.iconst 3, 1) := by decide +kernel
theorem d_L_law_222 : decode b_L_law 222 = .ok (.iadd, 1) := by decide +kernel
theorem d_L_law_223 : decode b_L_law 223 = .ok (.iaload, 1) := by decide +kernel
theorem d_L_law_224 : decode b_L_law 224 = .ok (.aload_n 0, 1) := by decide +kernel
theorem d_L_law_225 : decode b_L_law 225 = .ok (.iload_n 3, 1) := by decide +kernel
theorem d_L_law_226 : decode b_L_law 226 = .ok (.iconst 4, 1) := by decide +kernel
theorem d_L_law_227 : decode b_L_law 227 = .ok (.iadd, 1) := by decide +kernel
theorem d_L_law_228 : decode b_L_law 228 = .ok (.iaload, 1) := by decide +kernel
theorem d_L_law_229 : decode b_L_law 229 = .ok (.invokestatic 50, 3) := by decide +kernel
theorem d_L_law_232 : decode b_L_law 232 = .ok (.istore 4, 2) := by decide +kernel
theorem d_L_law_234 : decode b_L_law 234 = .ok (.aload_n 2, 1) := by decide +kernel
theorem d_L_law_235 : decode b_L_law 235 = .ok (.aload_n 0, 1) := by decide +kernel
theorem d_L_law_236 : decode b_L_law 236 = .ok (.iload_n 3, 1) := by decide +kernel
theorem d_L_law_237 : decode b_L_law 237 = .ok (.iconst 1, 1) := by decide +kernel
theorem d_L_law_238 : decode b_L_law 238 = .ok (.iadd, 1) := by decide +kernel
theorem d_L_law_239 : decode b_L_law 239 = .ok (.iaload, 1) := by decide +kernel
theorem d_L_law_240 : decode b_L_law 240 = .ok (.aload_n 0, 1) := by decide +kernel
theorem d_L_law_241 : decode b_L_law 241 = .ok (.iload_n 3, 1) := by decide +kernel
theorem d_L_law_242 : decode b_L_law 242 = .ok (.iconst 2, 1) := by decide +kernel
theorem d_L_law_243 : decode b_L_law 243 = .ok (.iadd, 1) := by decide +kernel
theorem d_L_law_244 : decode b_L_law 244 = .ok (.iaload, 1) := by decide +kernel
theorem d_L_law_245 : decode b_L_law 245 = .ok (.aload_n 0, 1) := by decide +kernel
theorem d_L_law_246 : decode b_L_law 246 = .ok (.iload_n 3, 1) := by decide +kernel
theorem d_L_law_247 : decode b_L_law 247 = .ok (.iconst 3, 1) := by decide +kernel
theorem d_L_law_248 : decode b_L_law 248 = .ok (.iadd, 1) := by decide +kernel
theorem d_L_law_249 : decode b_L_law 249 = .ok (.iaload, 1) := by decide +kernel
theorem d_L_law_250 : decode b_L_law 250 = .ok (.aload_n 0, 1) := by decide +kernel
theorem d_L_law_251 : decode b_L_law 251 = .ok (.iload_n 3, 1) := by decide +kernel
theorem d_L_law_252 : decode b_L_law 252 = .ok (.iconst 4, 1) := by decide +kernel
theorem d_L_law_253 : decode b_L_law 253 = .ok (.iadd, 1) := by decide +kernel
theorem d_L_law_254 : decode b_L_law 254 = .ok (.iaload, 1) := by decide +kernel
theorem d_L_law_255 : decode b_L_law 255 = .ok (.invokevirtual 53, 3) := by decide +kernel
theorem d_L_law_258 : decode b_L_law 258 = .ok (.aload_n 2, 1) := by decide +kernel
theorem d_L_law_259 : decode b_L_law 259 = .ok (.invokevirtual 43, 3) := by decide +kernel
theorem d_L_law_262 : decode b_L_law 262 = .ok (.iload 4, 2) := by decide +kernel
theorem d_L_law_264 : decode b_L_law 264 = .ok (.if_icmp .eq 5, 3) := by decide +kernel
theorem d_L_law_267 : decode b_L_law 267 = .ok (.iconst 0, 1) := by decide +kernel
theorem d_L_law_268 : decode b_L_law 268 = .ok (.ireturn, 1) := by decide +kernel
theorem d_L_law_269 : decode b_L_law 269 = .ok (.goto 334, 3) := by decide +kernel
theorem d_L_law_272 : decode b_L_law 272 = .ok (.aload_n 1, 1) := by decide +kernel
theorem d_L_law_273 : decode b_L_law 273 = .ok (.aload_n 0, 1) := by decide +kernel
theorem d_L_law_274 : decode b_L_law 274 = .ok (.iload_n 3, 1) := by decide +kernel
theorem d_L_law_275 : decode b_L_law 275 = .ok (.iconst 1, 1) := by decide +kernel
theorem d_L_law_276 : decode b_L_law 276 = .ok (.iadd, 1) := by decide +kernel
theorem d_L_law_277 : decode b_L_law 277 = .ok (.iaload, 1) := by decide +kernel
theorem d_L_law_278 : decode b_L_law 278 = .ok (.aload_n 0, 1) := by decide +kernel
theorem d_L_law_279 : decode b_L_law 279 = .ok (.iload_n 3, 1) := by decide +kernel
theorem d_L_law_280 : decode b_L_law 280 = .ok (.iconst 2, 1) := by decide +kernel
theorem d_L_law_281 : decode b_L_law 281 = .ok (.iadd, 1) := by decide +kernel
theorem d_L_law_282 : decode b_L_law 282 = .ok (.iaload, 1) := by decide +kernel
theorem d_L_law_283 : decode b_L_law 283 = .ok (.aload_n 0, 1) := by decide +kernel
theorem d_L_law_284 : decode b_L_law 284 = .ok (.iload_n 3, 1) := by decide +kernel
theorem d_L_law_285 : decode b_L_law 285 = .ok (.iconst 3, 1) := by decide +kernel
theorem d_L_law_286 : decode b_L_law 286 = .ok (.iadd, 1) := by decide +kernel
theorem d_L_law_287 : decode b_L_law 287 = .ok (.iaload, 1) := by decide +kernel
theorem d_L_law_288 : decode b_L_law 288 = .ok (.invokestatic 54, 3) := by decide +kernel
theorem d_L_law_291 : decode b_L_law 291 = .ok (.istore 4, 2) := by decide +kernel
theorem d_L_law_293 : decode b_L_law 293 = .ok (.aload_n 2, 1) := by decide +kernel
theorem d_L_law_294 : decode b_L_law 294 = .ok (.aload_n 0, 1) := by decide +kernel
theorem d_L_law_295 : decode b_L_law 295 = .ok (.iload_n 3, 1) := by decide +kernel
theorem d_L_law_296 : decode b_L_law 296 = .ok (.iconst 1, 1) := by decide +kernel
theorem d_L_law_297 : decode b_L_law 297 = .ok (.iadd, 1) := by decide +kernel
theorem d_L_law_298 : decode b_L_law 298 = .ok (.iaload, 1) := by decide +kernel
theorem d_L_law_299 : decode b_L_law 299 = .ok (.aload_n 0, 1) := by decide +kernel
theorem d_L_law_300 : decode b_L_law 300 = .ok (.iload_n 3, 1) := by decide +kernel
theorem d_L_law_301 : decode b_L_law 301 = .ok (.iconst 2, 1) := by decide +kernel
theorem d_L_law_302 : decode b_L_law 302 = .ok (.iadd, 1) := by decide +kernel
theorem d_L_law_303 : decode b_L_law 303 = .ok (.iaload, 1) := by decide +kernel
theorem d_L_law_304 : decode b_L_law 304 = .ok (.aload_n 0, 1) := by decide +kernel
theorem d_L_law_305 : decode b_L_law 305 = .ok (.iload_n 3, 1) := by decide +kernel
theorem d_L_law_306 : decode b_L_law 306 = .ok (.iconst 3, 1) := by decide +kernel
theorem d_L_law_307 : decode b_L_law 307 = .ok (.iadd, 1) := by decide +kernel
theorem d_L_law_308 : decode b_L_law 308 = .ok (.iaload, 1) := by decide +kernel
theorem d_L_law_309 : decode b_L_law 309 = .ok (.invokevirtual 57, 3) := by decide +kernel
theorem d_L_law_312 : decode b_L_law 312 = .ok (.aload_n 2, 1) := by decide +kernel
theorem d_L_law_313 : decode b_L_law 313 = .ok (.invokevirtual 43, 3) := by decide +kernel
theorem d_L_law_316 : decode b_L_law 316 = .ok (.iload 4, 2) := by decide +kernel
theorem d_L_law_318 : decode b_L_law 318 = .ok (.if_icmp .eq 5, 3) := by decide +kernel
theorem d_L_law_321 : decode b_L_law 321 = .ok (.iconst 0, 1) := by decide +kernel
theorem d_L_law_322 : decode b_L_law 322 = .ok (.ireturn, 1) := by decide +kernel
theorem d_L_law_323 : decode b_L_law 323 = .ok (.goto 280, 3) := by decide +kernel
theorem d_L_law_326 : decode b_L_law 326 = .ok (.aload_n 1, 1) := by decide +kernel
theorem d_L_law_327 : decode b_L_law 327 = .ok (.aload_n 0, 1) := by decide +kernel
theorem d_L_law_328 : decode b_L_law 328 = .ok (.iload_n 3, 1) := by decide +kernel
theorem d_L_law_329 : decode b_L_law 329 = .ok (.iconst 1, 1) := by decide +kernel
theorem d_L_law_330 : decode b_L_law 330 = .ok (.iadd, 1) := by decide +kernel
theorem d_L_law_331 : decode b_L_law 331 = .ok (.iaload, 1) := by decide +kernel
theorem d_L_law_332 : decode b_L_law 332 = .ok (.aload_n 0, 1) := by decide +kernel
theorem d_L_law_333 : decode b_L_law 333 = .ok (.iload_n 3, 1) := by decide +kernel
theorem d_L_law_334 : decode b_L_law 334 = .ok (.iconst 2, 1) := by decide +kernel
theorem d_L_law_335 : decode b_L_law 335 = .ok (.iadd, 1) := by decide +kernel
theorem d_L_law_336 : decode b_L_law 336 = .ok (.iaload, 1) := by decide +kernel
theorem d_L_law_337 : decode b_L_law 337 = .ok (.invokevirtual 58, 3) := by decide +kernel
theorem d_L_law_340 : decode b_L_law 340 = .ok (.aload_n 2, 1) := by decide +kernel
theorem d_L_law_341 : decode b_L_law 341 = .ok (.aload_n 0, 1) := by decide +kernel
theorem d_L_law_342 : decode b_L_law 342 = .ok (.iload_n 3, 1) := by decide +kernel
theorem d_L_law_343 : decode b_L_law 343 = .ok (.iconst 1, 1) := by decide +kernel
theorem d_L_law_344 : decode b_L_law 344 = .ok (.iadd, 1) := by decide +kernel
theorem d_L_law_345 : decode b_L_law 345 = .ok (.iaload, 1) := by decide +kernel
theorem d_L_law_346 : decode b_L_law 346 = .ok (.aload_n 0, 1) := by decide +kernel
theorem d_L_law_347 : decode b_L_law 347 = .ok (.iload_n 3, 1) := by decide +kernel
theorem d_L_law_348 : decode b_L_law 348 = .ok (.iconst 2, 1) := by decide +kernel
theorem d_L_law_349 : decode b_L_law 349 = .ok (.iadd, 1) := by decide +kernel
theorem d_L_law_350 : decode b_L_law 350 = .ok (.iaload, 1) := by decide +kernel
theorem d_L_law_351 : decode b_L_law 351 = .ok (.invokevirtual 62, 3) := by decide +kernel
theorem d_L_law_354 : decode b_L_law 354 = .ok (.if_icmp .eq 249, 3) := by decide +kernel
theorem d_L_law_357 : decode b_L_law 357 = .ok (.iconst 0, 1) := by decide +kernel
theorem d_L_law_358 : decode b_L_law 358 = .ok (.ireturn, 1) := by decide +kernel
theorem d_L_law_359 : decode b_L_law 359 = .ok (.aload_n 1, 1) := by decide +kernel
theorem d_L_law_360 : decode b_L_law 360 = .ok (.aload_n 0, 1) := by decide +kernel
theorem d_L_law_361 : decode b_L_law 361 = .ok (.iload_n 3, 1) := by decide +kernel
theorem d_L_law_362 : decode b_L_law 362 = .ok (.iconst 1, 1) := by decide +kernel
theorem d_L_law_363 : decode b_L_law 363 = .ok (.iadd, 1) := by decide +kernel
theorem d_L_law_364 : decode b_L_law 364 = .ok (.iaload, 1) := by decide +kernel
theorem d_L_law_365 : decode b_L_law 365 = .ok (.aload_n 0, 1) := by decide +kernel
theorem d_L_law_366 : decode b_L_law 366 = .ok (.iload_n 3, 1) := by decide +kernel
theorem d_L_law_367 : decode b_L_law 367 = .ok (.iconst 2, 1) := by decide +kernel
theorem d_L_law_368 : decode b_L_law 368 = .ok (.iadd, 1) := by decide +kernel
theorem d_L_law_369 : decode b_L_law 369 = .ok (.iaload, 1) := by decide +kernel
theorem d_L_law_370 : decode b_L_law 370 = .ok (.invokevirtual 63, 3) := by decide +kernel
theorem d_L_law_373 : decode b_L_law 373 = .ok (.aload_n 2, 1) := by decide +kernel
theorem d_L_law_374 : decode b_L_law 374 = .ok (.aload_n 0, 1) := by decide +kernel
theorem d_L_law_375 : decode b_L_law 375 = .ok (.iload_n 3, 1) := by decide +kernel
theorem d_L_law_376 : decode b_L_law 376 = .ok (.iconst 1, 1) := by decide +kernel
theorem d_L_law_377 : decode b_L_law 377 = .ok (.iadd, 1) := by decide +kernel
theorem d_L_law_378 : decode b_L_law 378 = .ok (.iaload, 1) := by decide +kernel
theorem d_L_law_379 : decode b_L_law 379 = .ok (.aload_n 0, 1) := by decide +kernel
theorem d_L_law_380 : decode b_L_law 380 = .ok (.iload_n 3, 1) := by decide +kernel
theorem d_L_law_381 : decode b_L_law 381 = .ok (.iconst 2, 1) := by decide +kernel
theorem d_L_law_382 : decode b_L_law 382 = .ok (.iadd, 1) := by decide +kernel
theorem d_L_law_383 : decode b_L_law 383 = .ok (.iaload, 1) := by decide +kernel
theorem d_L_law_384 : decode b_L_law 384 = .ok (.invokevirtual 66, 3) := by decide +kernel
theorem d_L_law_387 : decode b_L_law 387 = .ok (.if_icmp .eq 216, 3) := by decide +kernel
theorem d_L_law_390 : decode b_L_law 390 = .ok (.iconst 0, 1) := by decide +kernel
theorem d_L_law_391 : decode b_L_law 391 = .ok (.ireturn, 1) := by decide +kernel
theorem d_L_law_392 : decode b_L_law 392 = .ok (.aload_n 1, 1) := by decide +kernel
theorem d_L_law_393 : decode b_L_law 393 = .ok (.aload_n 0, 1) := by decide +kernel
theorem d_L_law_394 : decode b_L_law 394 = .ok (.iload_n 3, 1) := by decide +kernel
theorem d_L_law_395 : decode b_L_law 395 = .ok (.iconst 1, 1) := by decide +kernel
theorem d_L_law_396 : decode b_L_law 396 = .ok (.iadd, 1) := by decide +kernel
theorem d_L_law_397 : decode b_L_law 397 = .ok (.iaload, 1) := by decide +kernel
theorem d_L_law_398 : decode b_L_law 398 = .ok (.invokevirtual 67, 3) := by decide +kernel
theorem d_L_law_401 : decode b_L_law 401 = .ok (.aload_n 2, 1) := by decide +kernel
theorem d_L_law_402 : decode b_L_law 402 = .ok (.aload_n 0, 1) := by decide +kernel
theorem d_L_law_403 : decode b_L_law 403 = .ok (.iload_n 3, 1) := by decide +kernel
theorem d_L_law_404 : decode b_L_law 404 = .ok (.iconst 1, 1) := by decide +kernel
theorem d_L_law_405 : decode b_L_law 405 = .ok (.iadd, 1) := by decide +kernel
theorem d_L_law_406 : decode b_L_law 406 = .ok (.iaload, 1) := by decide +kernel
theorem d_L_law_407 : decode b_L_law 407 = .ok (.invokevirtual 71, 3) := by decide +kernel
theorem d_L_law_410 : decode b_L_law 410 = .ok (.if_icmp .eq 193, 3) := by decide +kernel
theorem d_L_law_413 : decode b_L_law 413 = .ok (.iconst 0, 1) := by decide +kernel
theorem d_L_law_414 : decode b_L_law 414 = .ok (.ireturn, 1) := by decide +kernel
theorem d_L_law_415 : decode b_L_law 415 = .ok (.aload_n 1, 1) := by decide +kernel
theorem d_L_law_416 : decode b_L_law 416 = .ok (.aload_n 0, 1) := by decide +kernel
theorem d_L_law_417 : decode b_L_law 417 = .ok (.iload_n 3, 1) := by decide +kernel
theorem d_L_law_418 : decode b_L_law 418 = .ok (.iconst 1, 1) := by decide +kernel
theorem d_L_law_419 : decode b_L_law 419 = .ok (.iadd, 1) := by decide +kernel
theorem d_L_law_420 : decode b_L_law 420 = .ok (.iaload, 1) := by decide +kernel
theorem d_L_law_421 : decode b_L_law 421 = .ok (.aload_n 0, 1) := by decide +kernel
theorem d_L_law_422 : decode b_L_law 422 = .ok (.iload_n 3, 1) := by decide +kernel
theorem d_L_law_423 : decode b_L_law 423 = .ok (.iconst 2, 1) := by decide +kernel
theorem d_L_law_424 : decode b_L_law 424 = .ok (.iadd, 1) := by decide +kernel
theorem d_L_law_425 : decode b_L_law 425 = .ok (.iaload, 1) := by decide +kernel
theorem d_L_law_426 : decode b_L_law 426 = .ok (.invokevirtual 72, 3) := by decide +kernel
theorem d_L_law_429 : decode b_L_law 429 = .ok (.aload_n 2, 1) := by decide +kernel
theorem d_L_law_430 : decode b_L_law 430 = .ok (.aload_n 0, 1) := by decide +kernel
theorem d_L_law_431 : decode b_L_law 431 = .ok (.iload_n 3, 1) := by decide +kernel
theorem d_L_law_432 : decode b_L_law 432 = .ok (.iconst 1, 1) := by decide +kernel
theorem d_L_law_433 : decode b_L_law 433 = .ok (.iadd, 1) := by decide +kernel
theorem d_L_law_434 : decode b_L_law 434 = .ok (.iaload, 1) := by decide +kernel
theorem d_L_law_435 : decode b_L_law 435 = .ok (.aload_n 0, 1) := by decide +kernel
theorem d_L_law_436 : decode b_L_law 436 = .ok (.iload_n 3, 1) := by decide +kernel
theorem d_L_law_437 : decode b_L_law 437 = .ok (.iconst 2, 1) := by decide +kernel
theorem d_L_law_438 : decode b_L_law 438 = .ok (.iadd, 1) := by decide +kernel
theorem d_L_law_439 : decode b_L_law 439 = .ok (.iaload, 1) := by decide +kernel
theorem d_L_law_440 : decode b_L_law 440 = .ok (.invokevirtual 75, 3) := by decide +kernel
theorem d_L_law_443 : decode b_L_law 443 = .ok (.if_icmp .eq 160, 3) := by decide +kernel
theorem d_L_law_446 : decode b_L_law 446 = .ok (.iconst 0, 1) := by decide +kernel
theorem d_L_law_447 : decode b_L_law 447 = .ok (.ireturn, 1) := by decide +kernel
theorem d_L_law_448 : decode b_L_law 448 = .ok (.aload_n 1, 1) := by decide +kernel
theorem d_L_law_449 : decode b_L_law 449 = .ok (.aload_n 0, 1) := by decide +kernel
theorem d_L_law_450 : decode b_L_law 450 = .ok (.iload_n 3, 1) := by decide +kernel
theorem d_L_law_451 : decode b_L_law 451 = .ok (.iconst 1, 1) := by decide +kernel
theorem d_L_law_452 : decode b_L_law 452 = .ok (.iadd, 1) := by decide +kernel
theorem d_L_law_453 : decode b_L_law 453 = .ok (.iaload, 1) := by decide +kernel
theorem d_L_law_454 : decode b_L_law 454 = .ok (.invokevirtual 76, 3) := by decide +kernel
theorem d_L_law_457 : decode b_L_law 457 = .ok (.aload_n 2, 1) := by decide +kernel
theorem d_L_law_458 : decode b_L_law 458 = .ok (.aload_n 0, 1) := by decide +kernel
theorem d_L_law_459 : decode b_L_law 459 = .ok (.iload_n 3, 1) := by decide +kernel
theorem d_L_law_460 : decode b_L_law 460 = .ok (.iconst 1, 1) := by decide +kernel
theorem d_L_law_461 : decode b_L_law 461 = .ok (.iadd, 1) := by decide +kernel
theorem d_L_law_462 : decode b_L_law 462 = .ok (.iaload, 1) := by decide +kernel
theorem d_L_law_463 : decode b_L_law 463 = .ok (.invokevirtual 79, 3) := by decide +kernel
theorem d_L_law_466 : decode b_L_law 466 = .ok (.if_icmp .eq 137, 3) := by decide +kernel
theorem d_L_law_469 : decode b_L_law 469 = .ok (.iconst 0, 1) := by decide +kernel
theorem d_L_law_470 : decode b_L_law 470 = .ok (.ireturn, 1) := by decide +kernel
theorem d_L_law_471 : decode b_L_law 471 = .ok (.aload_n 1, 1) := by decide +kernel
theorem d_L_law_472 : decode b_L_law 472 = .ok (.aload_n 0, 1) := by decide +kernel
theorem d_L_law_473 : decode b_L_law 473 = .ok (.iload_n 3, 1) := by decide +kernel
theorem d_L_law_474 : decode b_L_law 474 = .ok (.iconst 1, 1) := by decide +kernel
theorem d_L_law_475 : decode b_L_law 475 = .ok (.iadd, 1) := by decide +kernel
theorem d_L_law_476 : decode b_L_law 476 = .ok (.iaload, 1) := by decide +kernel
theorem d_L_law_477 : decode b_L_law 477 = .ok (.aload_n 0, 1) := by decide +kernel
theorem d_L_law_478 : decode b_L_law 478 = .ok (.iload_n 3, 1) := by decide +kernel
theorem d_L_law_479 : decode b_L_law 479 = .ok (.iconst 2, 1) := by decide +kernel
theorem d_L_law_480 : decode b_L_law 480 = .ok (.iadd, 1) := by decide +kernel
theorem d_L_law_481 : decode b_L_law 481 = .ok (.iaload, 1) := by decide +kernel
theorem d_L_law_482 : decode b_L_law 482 = .ok (.invokevirtual 80, 3) := by decide +kernel
theorem d_L_law_485 : decode b_L_law 485 = .ok (.aload_n 2, 1) := by decide +kernel
theorem d_L_law_486 : decode b_L_law 486 = .ok (.aload_n 0, 1) := by decide +kernel
theorem d_L_law_487 : decode b_L_law 487 = .ok (.iload_n 3, 1) := by decide +kernel
theorem d_L_law_488 : decode b_L_law 488 = .ok (.iconst 1, 1) := by decide +kernel
theorem d_L_law_489 : decode b_L_law 489 = .ok (.iadd, 1) := by decide +kernel
theorem d_L_law_490 : decode b_L_law 490 = .ok (.iaload, 1) := by decide +kernel
theorem d_L_law_491 : decode b_L_law 491 = .ok (.aload_n 0, 1) := by decide +kernel
theorem d_L_law_492 : decode b_L_law 492 = .ok (.iload_n 3, 1) := by decide +kernel
theorem d_L_law_493 : decode b_L_law 493 = .ok (.iconst 2, 1) := by decide +kernel
theorem d_L_law_494 : decode b_L_law 494 = .ok (.iadd, 1) := by decide +kernel
theorem d_L_law_495 : decode b_L_law 495 = .ok (.iaload, 1) := by decide +kernel
theorem d_L_law_496 : decode b_L_law 496 = .ok (.invokevirtual 84, 3) := by decide +kernel
theorem d_L_law_499 : decode b_L_law 499 = .ok (.if_icmp .eq 104, 3) := by decide +kernel
theorem d_L_law_502 : decode b_L_law 502 = .ok (.iconst 0, 1) := by decide +kernel
theorem d_L_law_503 : decode b_L_law 503 = .ok (.ireturn, 1) := by decide +kernel
theorem d_L_law_504 : decode b_L_law 504 = .ok (.aload_n 1, 1) := by decide +kernel
theorem d_L_law_505 : decode b_L_law 505 = .ok (.aload_n 0, 1) := by decide +kernel
theorem d_L_law_506 : decode b_L_law 506 = .ok (.iload_n 3, 1) := by decide +kernel
theorem d_L_law_507 : decode b_L_law 507 = .ok (.iconst 1, 1) := by decide +kernel
theorem d_L_law_508 : decode b_L_law 508 = .ok (.iadd, 1) := by decide +kernel
theorem d_L_law_509 : decode b_L_law 509 = .ok (.iaload, 1) := by decide +kernel
theorem d_L_law_510 : decode b_L_law 510 = .ok (.aload_n 0, 1) := by decide +kernel
theorem d_L_law_511 : decode b_L_law 511 = .ok (.iload_n 3, 1) := by decide +kernel
theorem d_L_law_512 : decode b_L_law 512 = .ok (.iconst 2, 1) := by decide +kernel
theorem d_L_law_513 : decode b_L_law 513 = .ok (.iadd, 1) := by decide +kernel
theorem d_L_law_514 : decode b_L_law 514 = .ok (.iaload, 1) := by decide +kernel
theorem d_L_law_515 : decode b_L_law 515 = .ok (.invokevirtual 85, 3) := by decide +kernel
theorem d_L_law_518 : decode b_L_law 518 = .ok (.aload_n 2, 1) := by decide +kernel
theorem d_L_law_519 : decode b_L_law 519 = .ok (.aload_n 0, 1) := by decide +kernel
theorem d_L_law_520 : decode b_L_law 520 = .ok (.iload_n 3, 1) := by decide +kernel
theorem d_L_law_521 : decode b_L_law 521 = .ok (.iconst 1, 1) := by decide +kernel
theorem d_L_law_522 : decode b_L_law 522 = .ok (.iadd, 1) := by decide +kernel
theorem d_L_law_523 : decode b_L_law 523 = .ok (.iaload, 1) := by decide +kernel
theorem d_L_law_524 : decode b_L_law 524 = .ok (.aload_n 0, 1) := by decide +kernel
theorem d_L_law_525 : decode b_L_law 525 = .ok (.iload_n 3, 1) := by decide +kernel
theorem d_L_law_526 : decode b_L_law 526 = .ok (.iconst 2, 1) := by decide +kernel
theorem d_L_law_527 : decode b_L_law 527 = .ok (.iadd, 1) := by decide +kernel
theorem d_L_law_528 : decode b_L_law 528 = .ok (.iaload, 1) := by decide +kernel
theorem d_L_law_529 : decode b_L_law 529 = .ok (.invokevirtual 88, 3) := by decide +kernel
theorem d_L_law_532 : decode b_L_law 532 = .ok (.if_icmp .eq 71, 3) := by decide +kernel
theorem d_L_law_535 : decode b_L_law 535 = .ok (.iconst 0, 1) := by decide +kernel
theorem d_L_law_536 : decode b_L_law 536 = .ok (.ireturn, 1) := by decide +kernel
theorem d_L_law_537 : decode b_L_law 537 = .ok (.aload_n 1, 1) := by decide +kernel
theorem d_L_law_538 : decode b_L_law 538 = .ok (.aload_n 0, 1) := by decide +kernel
theorem d_L_law_539 : decode b_L_law 539 = .ok (.iload_n 3, 1) := by decide +kernel
theorem d_L_law_540 : decode b_L_law 540 = .ok (.iconst 1, 1) := by decide +kernel
theorem d_L_law_541 : decode b_L_law 541 = .ok (.iadd, 1) := by decide +kernel
theorem d_L_law_542 : decode b_L_law 542 = .ok (.iaload, 1) := by decide +kernel
theorem d_L_law_543 : decode b_L_law 543 = .ok (.aload_n 0, 1) := by decide +kernel
theorem d_L_law_544 : decode b_L_law 544 = .ok (.iload_n 3, 1) := by decide +kernel
theorem d_L_law_545 : decode b_L_law 545 = .ok (.iconst 2, 1) := by decide +kernel
theorem d_L_law_546 : decode b_L_law 546 = .ok (.iadd, 1) := by decide +kernel
theorem d_L_law_547 : decode b_L_law 547 = .ok (.iaload, 1) := by decide +kernel
theorem d_L_law_548 : decode b_L_law 548 = .ok (.aload_n 0, 1) := by decide +kernel
theorem d_L_law_549 : decode b_L_law 549 = .ok (.iload_n 3, 1) := by decide +kernel
theorem d_L_law_550 : decode b_L_law 550 = .ok (.iconst 3, 1) := by decide +kernel
theorem d_L_law_551 : decode b_L_law 551 = .ok (.iadd, 1) := by decide +kernel
theorem d_L_law_552 : decode b_L_law 552 = .ok (.iaload, 1) := by decide +kernel
theorem d_L_law_553 : decode b_L_law 553 = .ok (.invokevirtual 89, 3) := by decide +kernel
theorem d_L_law_556 : decode b_L_law 556 = .ok (.aload_n 2, 1) := by decide +kernel
theorem d_L_law_557 : decode b_L_law 557 = .ok (.aload_n 0, 1) := by decide +kernel
theorem d_L_law_558 : decode b_L_law 558 = .ok (.iload_n 3, 1) := by decide +kernel
theorem d_L_law_559 : decode b_L_law 559 = .ok (.iconst 1, 1) := by decide +kernel
theorem d_L_law_560 : decode b_L_law 560 = .ok (.iadd, 1) := by decide +kernel
theorem d_L_law_561 : decode b_L_law 561 = .ok (.iaload, 1) := by decide +kernel
theorem d_L_law_562 : decode b_L_law 562 = .ok (.aload_n 0, 1) := by decide +kernel
theorem d_L_law_563 : decode b_L_law 563 = .ok (.iload_n 3, 1) := by decide +kernel
theorem d_L_law_564 : decode b_L_law 564 = .ok (.iconst 2, 1) := by decide +kernel
theorem d_L_law_565 : decode b_L_law 565 = .ok (.iadd, 1) := by decide +kernel
theorem d_L_law_566 : decode b_L_law 566 = .ok (.iaload, 1) := by decide +kernel
theorem d_L_law_567 : decode b_L_law 567 = .ok (.aload_n 0, 1) := by decide +kernel
theorem d_L_law_568 : decode b_L_law 568 = .ok (.iload_n 3, 1) := by decide +kernel
theorem d_L_law_569 : decode b_L_law 569 = .ok (.iconst 3, 1) := by decide +kernel
theorem d_L_law_570 : decode b_L_law 570 = .ok (.iadd, 1) := by decide +kernel
theorem d_L_law_571 : decode b_L_law 571 = .ok (.iaload, 1) := by decide +kernel
theorem d_L_law_572 : decode b_L_law 572 = .ok (.invokevirtual 93, 3) := by decide +kernel
theorem d_L_law_575 : decode b_L_law 575 = .ok (.if_icmp .eq 28, 3) := by decide +kernel
theorem d_L_law_578 : decode b_L_law 578 = .ok (.iconst 0, 1) := by decide +kernel
theorem d_L_law_579 : decode b_L_law 579 = .ok (.ireturn, 1) := by decide +kernel
theorem d_L_law_580 : decode b_L_law 580 = .ok (.aload_n 1, 1) := by decide +kernel
theorem d_L_law_581 : decode b_L_law 581 = .ok (.aload_n 0, 1) := by decide +kernel
theorem d_L_law_582 : decode b_L_law 582 = .ok (.iload_n 3, 1) := by decide +kernel
theorem d_L_law_583 : decode b_L_law 583 = .ok (.iconst 1, 1) := by decide +kernel
theorem d_L_law_584 : decode b_L_law 584 = .ok (.iadd, 1) := by decide +kernel
theorem d_L_law_585 : decode b_L_law 585 = .ok (.iaload, 1) := by decide +kernel
theorem d_L_law_586 : decode b_L_law 586 = .ok (.invokevirtual 94, 3) := by decide +kernel
theorem d_L_law_589 : decode b_L_law 589 = .ok (.aload_n 2, 1) := by decide +kernel
theorem d_L_law_590 : decode b_L_law 590 = .ok (.aload_n 0, 1) := by decide +kernel
theorem d_L_law_591 : decode b_L_law 591 = .ok (.iload_n 3, 1) := by decide +kernel
theorem d_L_law_592 : decode b_L_law 592 = .ok (.iconst 1, 1) := by decide +kernel
theorem d_L_law_593 : decode b_L_law 593 = .ok (.iadd, 1) := by decide +kernel
theorem d_L_law_594 : decode b_L_law 594 = .ok (.iaload, 1) := by decide +kernel
theorem d_L_law_595 : decode b_L_law 595 = .ok (.invokevirtual 97, 3) := by decide +kernel
theorem d_L_law_598 : decode b_L_law 598 = .ok (.if_icmp .eq 5, 3) := by decide +kernel
theorem d_L_law_601 : decode b_L_law 601 = .ok (.iconst 0, 1) := by decide +kernel
theorem d_L_law_602 : decode b_L_law 602 = .ok (.ireturn, 1) := by decide +kernel
theorem d_L_law_603 : decode b_L_law 603 = .ok (.iinc 3 5, 3) := by decide +kernel
theorem d_L_law_606 : decode b_L_law 606 = .ok (.goto (-568), 3) := by decide +kernel
theorem d_L_law_609 : decode b_L_law 609 = .ok (.iconst 1, 1) := by decide +kernel
theorem d_L_law_610 : decode b_L_law 610 = .ok (.ireturn, 1) := by decide +kernel

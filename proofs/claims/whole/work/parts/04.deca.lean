/-! what the bytes say -/
theorem dA_init_0 : decode mA_init.2.1 0 = .ok (.aload_n 0, 1) := by decide +kernel
theorem dA_init_1 : decode mA_init.2.1 1 = .ok (.invokespecial 3, 3) := by decide +kernel
theorem dA_init_4 : decode mA_init.2.1 4 = .ok (.aload_n 0, 1) := by decide +kernel
theorem dA_init_5 : decode mA_init.2.1 5 = .ok (.bipush 20, 2) := by decide +kernel
theorem dA_init_7 : decode mA_init.2.1 7 = .ok (.newarray .int, 2) := by decide +kernel
theorem dA_init_9 : decode mA_init.2.1 9 = .ok (.putfield 9, 3) := by decide +kernel
theorem dA_init_12 : decode mA_init.2.1 12 = .ok (.return_, 1) := by decide +kernel
theorem dA_forget_0 : decode mA_forget.2.1 0 = .ok (.aload_n 0, 1) := by decide +kernel
theorem dA_forget_1 : decode mA_forget.2.1 1 = .ok (.iconst 0, 1) := by decide +kernel
theorem dA_forget_2 : decode mA_forget.2.1 2 = .ok (.putfield 15, 3) := by decide +kernel
theorem dA_forget_5 : decode mA_forget.2.1 5 = .ok (.return_, 1) := by decide +kernel
theorem dA_traced_0 : decode mA_traced.2.1 0 = .ok (.iload_n 1, 1) := by decide +kernel
theorem dA_traced_1 : decode mA_traced.2.1 1 = .ok (.ifCond .lt 26, 3) := by decide +kernel
theorem dA_traced_4 : decode mA_traced.2.1 4 = .ok (.iload_n 1, 1) := by decide +kernel
theorem dA_traced_5 : decode mA_traced.2.1 5 = .ok (.aload_n 0, 1) := by decide +kernel
theorem dA_traced_6 : decode mA_traced.2.1 6 = .ok (.getfield 15, 3) := by decide +kernel
theorem dA_traced_9 : decode mA_traced.2.1 9 = .ok (.if_icmp .ge 18, 3) := by decide +kernel
theorem dA_traced_12 : decode mA_traced.2.1 12 = .ok (.iload_n 1, 1) := by decide +kernel
theorem dA_traced_13 : decode mA_traced.2.1 13 = .ok (.bipush 20, 2) := by decide +kernel
theorem dA_traced_15 : decode mA_traced.2.1 15 = .ok (.if_icmp .ge 12, 3) := by decide +kernel
theorem dA_traced_18 : decode mA_traced.2.1 18 = .ok (.aload_n 0, 1) := by decide +kernel
theorem dA_traced_19 : decode mA_traced.2.1 19 = .ok (.getfield 9, 3) := by decide +kernel
theorem dA_traced_22 : decode mA_traced.2.1 22 = .ok (.iload_n 1, 1) := by decide +kernel
theorem dA_traced_23 : decode mA_traced.2.1 23 = .ok (.iaload, 1) := by decide +kernel
theorem dA_traced_24 : decode mA_traced.2.1 24 = .ok (.goto 4, 3) := by decide +kernel
theorem dA_traced_27 : decode mA_traced.2.1 27 = .ok (.iconst (-1), 1) := by decide +kernel
theorem dA_traced_28 : decode mA_traced.2.1 28 = .ok (.ireturn, 1) := by decide +kernel
theorem dA_perform_0 : decode mA_perform.2.1 0 = .ok (.aload_n 0, 1) := by decide +kernel
theorem dA_perform_1 : decode mA_perform.2.1 1 = .ok (.aload_n 1, 1) := by decide +kernel
theorem dA_perform_2 : decode mA_perform.2.1 2 = .ok (.getfield 19, 3) := by decide +kernel
theorem dA_perform_5 : decode mA_perform.2.1 5 = .ok (.putfield 24, 3) := by decide +kernel
theorem dA_perform_8 : decode mA_perform.2.1 8 = .ok (.aload_n 0, 1) := by decide +kernel
theorem dA_perform_9 : decode mA_perform.2.1 9 = .ok (.aload_n 1, 1) := by decide +kernel
theorem dA_perform_10 : decode mA_perform.2.1 10 = .ok (.getfield 25, 3) := by decide +kernel
theorem dA_perform_13 : decode mA_perform.2.1 13 = .ok (.putfield 28, 3) := by decide +kernel
theorem dA_perform_16 : decode mA_perform.2.1 16 = .ok (.aload_n 0, 1) := by decide +kernel
theorem dA_perform_17 : decode mA_perform.2.1 17 = .ok (.aload_n 1, 1) := by decide +kernel
theorem dA_perform_18 : decode mA_perform.2.1 18 = .ok (.getfield 29, 3) := by decide +kernel
theorem dA_perform_21 : decode mA_perform.2.1 21 = .ok (.putfield 32, 3) := by decide +kernel
theorem dA_perform_24 : decode mA_perform.2.1 24 = .ok (.aload_n 0, 1) := by decide +kernel
theorem dA_perform_25 : decode mA_perform.2.1 25 = .ok (.aload_n 0, 1) := by decide +kernel
theorem dA_perform_26 : decode mA_perform.2.1 26 = .ok (.getfield 24, 3) := by decide +kernel
theorem dA_perform_29 : decode mA_perform.2.1 29 = .ok (.iload_n 2, 1) := by decide +kernel
theorem dA_perform_30 : decode mA_perform.2.1 30 = .ok (.iload_n 3, 1) := by decide +kernel
theorem dA_perform_31 : decode mA_perform.2.1 31 = .ok (.iconst 0, 1) := by decide +kernel
theorem dA_perform_32 : decode mA_perform.2.1 32 = .ok (.invokevirtual 33, 3) := by decide +kernel
theorem dA_perform_35 : decode mA_perform.2.1 35 = .ok (.ireturn, 1) := by decide +kernel
theorem dA_run_0 : decode mA_run.2.1 0 = .ok (.iload 4, 2) := by decide +kernel
theorem dA_run_2 : decode mA_run.2.1 2 = .ok (.bipush 40, 2) := by decide +kernel
theorem dA_run_4 : decode mA_run.2.1 4 = .ok (.if_icmp .lt 5, 3) := by decide +kernel
theorem dA_run_7 : decode mA_run.2.1 7 = .ok (.iconst 0, 1) := by decide +kernel
theorem dA_run_8 : decode mA_run.2.1 8 = .ok (.ireturn, 1) := by decide +kernel
theorem dA_run_9 : decode mA_run.2.1 9 = .ok (.iload_n 1, 1) := by decide +kernel
theorem dA_run_10 : decode mA_run.2.1 10 = .ok (.iload_n 2, 1) := by decide +kernel
theorem dA_run_11 : decode mA_run.2.1 11 = .ok (.invokestatic 37, 3) := by decide +kernel
theorem dA_run_14 : decode mA_run.2.1 14 = .ok (.istore 5, 2) := by decide +kernel
theorem dA_run_16 : decode mA_run.2.1 16 = .ok (.aload_n 0, 1) := by decide +kernel
theorem dA_run_17 : decode mA_run.2.1 17 = .ok (.iload 5, 2) := by decide +kernel
theorem dA_run_19 : decode mA_run.2.1 19 = .ok (.invokevirtual 41, 3) := by decide +kernel
theorem dA_run_22 : decode mA_run.2.1 22 = .ok (.aload_n 0, 1) := by decide +kernel
theorem dA_run_23 : decode mA_run.2.1 23 = .ok (.iload 5, 2) := by decide +kernel
theorem dA_run_25 : decode mA_run.2.1 25 = .ok (.iload_n 3, 1) := by decide +kernel
theorem dA_run_26 : decode mA_run.2.1 26 = .ok (.iload 4, 2) := by decide +kernel
theorem dA_run_28 : decode mA_run.2.1 28 = .ok (.iconst 1, 1) := by decide +kernel
theorem dA_run_29 : decode mA_run.2.1 29 = .ok (.iadd, 1) := by decide +kernel
theorem dA_run_30 : decode mA_run.2.1 30 = .ok (.invokevirtual 45, 3) := by decide +kernel
theorem dA_run_33 : decode mA_run.2.1 33 = .ok (.ireturn, 1) := by decide +kernel
theorem dA_through_0 : decode mA_through.2.1 0 = .ok (.iload_n 1, 1) := by decide +kernel
theorem dA_through_1 : decode mA_through.2.1 1 = .ok (.lookupswitch 248 #[(10, 99), (11, 106), (12, 123), (20, 137), (30, 149), (40, 160), (50, 181), (51, 191), (60, 202), (70, 216), (71, 234)], 99) := by decide +kernel
theorem dA_through_100 : decode mA_through.2.1 100 = .ok (.iload_n 2, 1) := by decide +kernel
theorem dA_through_101 : decode mA_through.2.1 101 = .ok (.aload_n 0, 1) := by decide +kernel
theorem dA_through_102 : decode mA_through.2.1 102 = .ok (.getfield 28, 3) := by decide +kernel
theorem dA_through_105 : decode mA_through.2.1 105 = .ok (.iadd, 1) := by decide +kernel
theorem dA_through_106 : decode mA_through.2.1 106 = .ok (.ireturn, 1) := by decide +kernel
theorem dA_through_107 : decode mA_through.2.1 107 = .ok (.aload_n 0, 1) := by decide +kernel
theorem dA_through_108 : decode mA_through.2.1 108 = .ok (.aload_n 0, 1) := by decide +kernel
theorem dA_through_109 : decode mA_through.2.1 109 = .ok (.getfield 24, 3) := by decide +kernel
theorem dA_through_112 : decode mA_through.2.1 112 = .ok (.iconst 0, 1) := by decide +kernel
theorem dA_through_113 : decode mA_through.2.1 113 = .ok (.iload_n 2, 1) := by decide +kernel
theorem dA_through_114 : decode mA_through.2.1 114 = .ok (.iload_n 3, 1) := by decide +kernel
theorem dA_through_115 : decode mA_through.2.1 115 = .ok (.invokevirtual 33, 3) := by decide +kernel
theorem dA_through_118 : decode mA_through.2.1 118 = .ok (.aload_n 0, 1) := by decide +kernel
theorem dA_through_119 : decode mA_through.2.1 119 = .ok (.getfield 32, 3) := by decide +kernel
theorem dA_through_122 : decode mA_through.2.1 122 = .ok (.isub, 1) := by decide +kernel
theorem dA_through_123 : decode mA_through.2.1 123 = .ok (.ireturn, 1) := by decide +kernel
theorem dA_through_124 : decode mA_through.2.1 124 = .ok (.aload_n 0, 1) := by decide +kernel
theorem dA_through_125 : decode mA_through.2.1 125 = .ok (.aload_n 0, 1) := by decide +kernel
theorem dA_through_126 : decode mA_through.2.1 126 = .ok (.getfield 24, 3) := by decide +kernel
theorem dA_through_129 : decode mA_through.2.1 129 = .ok (.iconst 1, 1) := by decide +kernel
theorem dA_through_130 : decode mA_through.2.1 130 = .ok (.iload_n 2, 1) := by decide +kernel
theorem dA_through_131 : decode mA_through.2.1 131 = .ok (.iload_n 3, 1) := by decide +kernel
theorem dA_through_132 : decode mA_through.2.1 132 = .ok (.invokevirtual 33, 3) := by decide +kernel
theorem dA_through_135 : decode mA_through.2.1 135 = .ok (.iconst 2, 1) := by decide +kernel
theorem dA_through_136 : decode mA_through.2.1 136 = .ok (.imul, 1) := by decide +kernel
theorem dA_through_137 : decode mA_through.2.1 137 = .ok (.ireturn, 1) := by decide +kernel
theorem dA_through_138 : decode mA_through.2.1 138 = .ok (.aload_n 0, 1) := by decide +kernel
theorem dA_through_139 : decode mA_through.2.1 139 = .ok (.iconst 0, 1) := by decide +kernel
theorem dA_through_140 : decode mA_through.2.1 140 = .ok (.iconst 1, 1) := by decide +kernel
theorem dA_through_141 : decode mA_through.2.1 141 = .ok (.iload_n 2, 1) := by decide +kernel
theorem dA_through_142 : decode mA_through.2.1 142 = .ok (.iload_n 3, 1) := by decide +kernel
theorem dA_through_143 : decode mA_through.2.1 143 = .ok (.invokevirtual 33, 3) := by decide +kernel
theorem dA_through_146 : decode mA_through.2.1 146 = .ok (.bipush 6, 2) := by decide +kernel
theorem dA_through_148 : decode mA_through.2.1 148 = .ok (.ixor, 1) := by decide +kernel
theorem dA_through_149 : decode mA_through.2.1 149 = .ok (.ireturn, 1) := by decide +kernel
theorem dA_through_150 : decode mA_through.2.1 150 = .ok (.aload_n 0, 1) := by decide +kernel
theorem dA_through_151 : decode mA_through.2.1 151 = .ok (.iconst 0, 1) := by decide +kernel
theorem dA_through_152 : decode mA_through.2.1 152 = .ok (.iconst 0, 1) := by decide +kernel
theorem dA_through_153 : decode mA_through.2.1 153 = .ok (.iload_n 2, 1) := by decide +kernel
theorem dA_through_154 : decode mA_through.2.1 154 = .ok (.iconst 3, 1) := by decide +kernel
theorem dA_through_155 : decode mA_through.2.1 155 = .ok (.imul, 1) := by decide +kernel
theorem dA_through_156 : decode mA_through.2.1 156 = .ok (.iload_n 3, 1) := by decide +kernel
theorem dA_through_157 : decode mA_through.2.1 157 = .ok (.invokevirtual 33, 3) := by decide +kernel
theorem dA_through_160 : decode mA_through.2.1 160 = .ok (.ireturn, 1) := by decide +kernel
theorem dA_through_161 : decode mA_through.2.1 161 = .ok (.aload_n 0, 1) := by decide +kernel
theorem dA_through_162 : decode mA_through.2.1 162 = .ok (.iconst 0, 1) := by decide +kernel
theorem dA_through_163 : decode mA_through.2.1 163 = .ok (.iconst 2, 1) := by decide +kernel
theorem dA_through_164 : decode mA_through.2.1 164 = .ok (.iload_n 2, 1) := by decide +kernel
theorem dA_through_165 : decode mA_through.2.1 165 = .ok (.iload_n 3, 1) := by decide +kernel
theorem dA_through_166 : decode mA_through.2.1 166 = .ok (.invokevirtual 33, 3) := by decide +kernel
theorem dA_through_169 : decode mA_through.2.1 169 = .ok (.aload_n 0, 1) := by decide +kernel
theorem dA_through_170 : decode mA_through.2.1 170 = .ok (.aload_n 0, 1) := by decide +kernel
theorem dA_through_171 : decode mA_through.2.1 171 = .ok (.getfield 24, 3) := by decide +kernel
theorem dA_through_174 : decode mA_through.2.1 174 = .ok (.iconst 1, 1) := by decide +kernel
theorem dA_through_175 : decode mA_through.2.1 175 = .ok (.iconst 1, 1) := by decide +kernel
theorem dA_through_176 : decode mA_through.2.1 176 = .ok (.iload_n 3, 1) := by decide +kernel
theorem dA_through_177 : decode mA_through.2.1 177 = .ok (.invokevirtual 33, 3) := by decide +kernel
theorem dA_through_180 : decode mA_through.2.1 180 = .ok (.iadd, 1) := by decide +kernel
theorem dA_through_181 : decode mA_through.2.1 181 = .ok (.ireturn, 1) := by decide +kernel
theorem dA_through_182 : decode mA_through.2.1 182 = .ok (.aload_n 0, 1) := by decide +kernel
theorem dA_through_183 : decode mA_through.2.1 183 = .ok (.iconst 1, 1) := by decide +kernel
theorem dA_through_184 : decode mA_through.2.1 184 = .ok (.iconst 0, 1) := by decide +kernel
theorem dA_through_185 : decode mA_through.2.1 185 = .ok (.iload_n 2, 1) := by decide +kernel
theorem dA_through_186 : decode mA_through.2.1 186 = .ok (.iload_n 3, 1) := by decide +kernel
theorem dA_through_187 : decode mA_through.2.1 187 = .ok (.invokevirtual 33, 3) := by decide +kernel
theorem dA_through_190 : decode mA_through.2.1 190 = .ok (.ineg, 1) := by decide +kernel
theorem dA_through_191 : decode mA_through.2.1 191 = .ok (.ireturn, 1) := by decide +kernel
theorem dA_through_192 : decode mA_through.2.1 192 = .ok (.aload_n 0, 1) := by decide +kernel
theorem dA_through_193 : decode mA_through.2.1 193 = .ok (.iconst 1, 1) := by decide +kernel
theorem dA_through_194 : decode mA_through.2.1 194 = .ok (.iconst 1, 1) := by decide +kernel
theorem dA_through_195 : decode mA_through.2.1 195 = .ok (.iload_n 2, 1) := by decide +kernel
theorem dA_through_196 : decode mA_through.2.1 196 = .ok (.iconst 1, 1) := by decide +kernel
theorem dA_through_197 : decode mA_through.2.1 197 = .ok (.iadd, 1) := by decide +kernel
theorem dA_through_198 : decode mA_through.2.1 198 = .ok (.iload_n 3, 1) := by decide +kernel
theorem dA_through_199 : decode mA_through.2.1 199 = .ok (.invokevirtual 33, 3) := by decide +kernel
theorem dA_through_202 : decode mA_through.2.1 202 = .ok (.ireturn, 1) := by decide +kernel
theorem dA_through_203 : decode mA_through.2.1 203 = .ok (.aload_n 0, 1) := by decide +kernel
theorem dA_through_204 : decode mA_through.2.1 204 = .ok (.iconst 2, 1) := by decide +kernel
theorem dA_through_205 : decode mA_through.2.1 205 = .ok (.iconst 2, 1) := by decide +kernel
theorem dA_through_206 : decode mA_through.2.1 206 = .ok (.iload_n 2, 1) := by decide +kernel
theorem dA_through_207 : decode mA_through.2.1 207 = .ok (.aload_n 0, 1) := by decide +kernel
theorem dA_through_208 : decode mA_through.2.1 208 = .ok (.getfield 28, 3) := by decide +kernel
theorem dA_through_211 : decode mA_through.2.1 211 = .ok (.isub, 1) := by decide +kernel
theorem dA_through_212 : decode mA_through.2.1 212 = .ok (.iload_n 3, 1) := by decide +kernel
theorem dA_through_213 : decode mA_through.2.1 213 = .ok (.invokevirtual 33, 3) := by decide +kernel
theorem dA_through_216 : decode mA_through.2.1 216 = .ok (.ireturn, 1) := by decide +kernel
theorem dA_through_217 : decode mA_through.2.1 217 = .ok (.aload_n 0, 1) := by decide +kernel
theorem dA_through_218 : decode mA_through.2.1 218 = .ok (.iconst 3, 1) := by decide +kernel
theorem dA_through_219 : decode mA_through.2.1 219 = .ok (.iconst 1, 1) := by decide +kernel
theorem dA_through_220 : decode mA_through.2.1 220 = .ok (.iload_n 2, 1) := by decide +kernel
theorem dA_through_221 : decode mA_through.2.1 221 = .ok (.iload_n 3, 1) := by decide +kernel
theorem dA_through_222 : decode mA_through.2.1 222 = .ok (.invokevirtual 33, 3) := by decide +kernel
theorem dA_through_225 : decode mA_through.2.1 225 = .ok (.aload_n 0, 1) := by decide +kernel
theorem dA_through_226 : decode mA_through.2.1 226 = .ok (.iconst 3, 1) := by decide +kernel
theorem dA_through_227 : decode mA_through.2.1 227 = .ok (.iconst 0, 1) := by decide +kernel
theorem dA_through_228 : decode mA_through.2.1 228 = .ok (.iconst 2, 1) := by decide +kernel
theorem dA_through_229 : decode mA_through.2.1 229 = .ok (.iload_n 3, 1) := by decide +kernel
theorem dA_through_230 : decode mA_through.2.1 230 = .ok (.invokevirtual 33, 3) := by decide +kernel
theorem dA_through_233 : decode mA_through.2.1 233 = .ok (.iadd, 1) := by decide +kernel
theorem dA_through_234 : decode mA_through.2.1 234 = .ok (.ireturn, 1) := by decide +kernel
theorem dA_through_235 : decode mA_through.2.1 235 = .ok (.aload_n 0, 1) := by decide +kernel
theorem dA_through_236 : decode mA_through.2.1 236 = .ok (.iconst 3, 1) := by decide +kernel
theorem dA_through_237 : decode mA_through.2.1 237 = .ok (.iconst 0, 1) := by decide +kernel
theorem dA_through_238 : decode mA_through.2.1 238 = .ok (.iload_n 2, 1) := by decide +kernel
theorem dA_through_239 : decode mA_through.2.1 239 = .ok (.iload_n 3, 1) := by decide +kernel
theorem dA_through_240 : decode mA_through.2.1 240 = .ok (.invokevirtual 33, 3) := by decide +kernel
theorem dA_through_243 : decode mA_through.2.1 243 = .ok (.aload_n 0, 1) := by decide +kernel
theorem dA_through_244 : decode mA_through.2.1 244 = .ok (.getfield 32, 3) := by decide +kernel
theorem dA_through_247 : decode mA_through.2.1 247 = .ok (.ixor, 1) := by decide +kernel
theorem dA_through_248 : decode mA_through.2.1 248 = .ok (.ireturn, 1) := by decide +kernel
theorem dA_through_249 : decode mA_through.2.1 249 = .ok (.iconst 0, 1) := by decide +kernel
theorem dA_through_250 : decode mA_through.2.1 250 = .ok (.ireturn, 1) := by decide +kernel
theorem dA_bodyFrom_0 : decode mA_bodyFrom.2.1 0 = .ok (.iload_n 0, 1) := by decide +kernel
theorem dA_bodyFrom_1 : decode mA_bodyFrom.2.1 1 = .ok (.istore_n 2, 1) := by decide +kernel
theorem dA_bodyFrom_2 : decode mA_bodyFrom.2.1 2 = .ok (.iconst 0, 1) := by decide +kernel
theorem dA_bodyFrom_3 : decode mA_bodyFrom.2.1 3 = .ok (.istore_n 3, 1) := by decide +kernel
theorem dA_bodyFrom_4 : decode mA_bodyFrom.2.1 4 = .ok (.iload_n 3, 1) := by decide +kernel
theorem dA_bodyFrom_5 : decode mA_bodyFrom.2.1 5 = .ok (.getstatic 49, 3) := by decide +kernel
theorem dA_bodyFrom_8 : decode mA_bodyFrom.2.1 8 = .ok (.arraylength, 1) := by decide +kernel
theorem dA_bodyFrom_9 : decode mA_bodyFrom.2.1 9 = .ok (.if_icmp .ge 64, 3) := by decide +kernel
theorem dA_bodyFrom_12 : decode mA_bodyFrom.2.1 12 = .ok (.iload_n 2, 1) := by decide +kernel
theorem dA_bodyFrom_13 : decode mA_bodyFrom.2.1 13 = .ok (.ifCond .lt 60, 3) := by decide +kernel
theorem dA_bodyFrom_16 : decode mA_bodyFrom.2.1 16 = .ok (.iload_n 2, 1) := by decide +kernel
theorem dA_bodyFrom_17 : decode mA_bodyFrom.2.1 17 = .ok (.getstatic 49, 3) := by decide +kernel
theorem dA_bodyFrom_20 : decode mA_bodyFrom.2.1 20 = .ok (.arraylength, 1) := by decide +kernel
theorem dA_bodyFrom_21 : decode mA_bodyFrom.2.1 21 = .ok (.if_icmp .ge 52, 3) := by decide +kernel
theorem dA_bodyFrom_24 : decode mA_bodyFrom.2.1 24 = .ok (.iload_n 2, 1) := by decide +kernel
theorem dA_bodyFrom_25 : decode mA_bodyFrom.2.1 25 = .ok (.iconst 3, 1) := by decide +kernel
theorem dA_bodyFrom_26 : decode mA_bodyFrom.2.1 26 = .ok (.imul, 1) := by decide +kernel
theorem dA_bodyFrom_27 : decode mA_bodyFrom.2.1 27 = .ok (.iload_n 1, 1) := by decide +kernel
theorem dA_bodyFrom_28 : decode mA_bodyFrom.2.1 28 = .ok (.iadd, 1) := by decide +kernel
theorem dA_bodyFrom_29 : decode mA_bodyFrom.2.1 29 = .ok (.istore 4, 2) := by decide +kernel
theorem dA_bodyFrom_31 : decode mA_bodyFrom.2.1 31 = .ok (.iload 4, 2) := by decide +kernel
theorem dA_bodyFrom_33 : decode mA_bodyFrom.2.1 33 = .ok (.ifCond .lt 28, 3) := by decide +kernel
theorem dA_bodyFrom_36 : decode mA_bodyFrom.2.1 36 = .ok (.iload 4, 2) := by decide +kernel
theorem dA_bodyFrom_38 : decode mA_bodyFrom.2.1 38 = .ok (.getstatic 52, 3) := by decide +kernel
theorem dA_bodyFrom_41 : decode mA_bodyFrom.2.1 41 = .ok (.arraylength, 1) := by decide +kernel
theorem dA_bodyFrom_42 : decode mA_bodyFrom.2.1 42 = .ok (.if_icmp .ge 19, 3) := by decide +kernel
theorem dA_bodyFrom_45 : decode mA_bodyFrom.2.1 45 = .ok (.getstatic 52, 3) := by decide +kernel
theorem dA_bodyFrom_48 : decode mA_bodyFrom.2.1 48 = .ok (.iload 4, 2) := by decide +kernel
theorem dA_bodyFrom_50 : decode mA_bodyFrom.2.1 50 = .ok (.iaload, 1) := by decide +kernel
theorem dA_bodyFrom_51 : decode mA_bodyFrom.2.1 51 = .ok (.ifCond .eq 10, 3) := by decide +kernel
theorem dA_bodyFrom_54 : decode mA_bodyFrom.2.1 54 = .ok (.getstatic 52, 3) := by decide +kernel
theorem dA_bodyFrom_57 : decode mA_bodyFrom.2.1 57 = .ok (.iload 4, 2) := by decide +kernel
theorem dA_bodyFrom_59 : decode mA_bodyFrom.2.1 59 = .ok (.iaload, 1) := by decide +kernel
theorem dA_bodyFrom_60 : decode mA_bodyFrom.2.1 60 = .ok (.ireturn, 1) := by decide +kernel
theorem dA_bodyFrom_61 : decode mA_bodyFrom.2.1 61 = .ok (.getstatic 49, 3) := by decide +kernel
theorem dA_bodyFrom_64 : decode mA_bodyFrom.2.1 64 = .ok (.iload_n 2, 1) := by decide +kernel
theorem dA_bodyFrom_65 : decode mA_bodyFrom.2.1 65 = .ok (.iaload, 1) := by decide +kernel
theorem dA_bodyFrom_66 : decode mA_bodyFrom.2.1 66 = .ok (.istore_n 2, 1) := by decide +kernel
theorem dA_bodyFrom_67 : decode mA_bodyFrom.2.1 67 = .ok (.iinc 3 1, 3) := by decide +kernel
theorem dA_bodyFrom_70 : decode mA_bodyFrom.2.1 70 = .ok (.goto (-66), 3) := by decide +kernel
theorem dA_bodyFrom_73 : decode mA_bodyFrom.2.1 73 = .ok (.iconst 0, 1) := by decide +kernel
theorem dA_bodyFrom_74 : decode mA_bodyFrom.2.1 74 = .ok (.ireturn, 1) := by decide +kernel
theorem dA_begin_0 : decode mA_begin.2.1 0 = .ok (.aload_n 0, 1) := by decide +kernel
theorem dA_begin_1 : decode mA_begin.2.1 1 = .ok (.getfield 15, 3) := by decide +kernel
theorem dA_begin_4 : decode mA_begin.2.1 4 = .ok (.bipush 20, 2) := by decide +kernel
theorem dA_begin_6 : decode mA_begin.2.1 6 = .ok (.if_icmp .ge 13, 3) := by decide +kernel
theorem dA_begin_9 : decode mA_begin.2.1 9 = .ok (.aload_n 0, 1) := by decide +kernel
theorem dA_begin_10 : decode mA_begin.2.1 10 = .ok (.getfield 9, 3) := by decide +kernel
theorem dA_begin_13 : decode mA_begin.2.1 13 = .ok (.aload_n 0, 1) := by decide +kernel
theorem dA_begin_14 : decode mA_begin.2.1 14 = .ok (.getfield 15, 3) := by decide +kernel
theorem dA_begin_17 : decode mA_begin.2.1 17 = .ok (.iload_n 1, 1) := by decide +kernel
theorem dA_begin_18 : decode mA_begin.2.1 18 = .ok (.iastore, 1) := by decide +kernel
theorem dA_begin_19 : decode mA_begin.2.1 19 = .ok (.aload_n 0, 1) := by decide +kernel
theorem dA_begin_20 : decode mA_begin.2.1 20 = .ok (.dup, 1) := by decide +kernel
theorem dA_begin_21 : decode mA_begin.2.1 21 = .ok (.getfield 15, 3) := by decide +kernel
theorem dA_begin_24 : decode mA_begin.2.1 24 = .ok (.iconst 1, 1) := by decide +kernel
theorem dA_begin_25 : decode mA_begin.2.1 25 = .ok (.iadd, 1) := by decide +kernel
theorem dA_begin_26 : decode mA_begin.2.1 26 = .ok (.putfield 15, 3) := by decide +kernel
theorem dA_begin_29 : decode mA_begin.2.1 29 = .ok (.return_, 1) := by decide +kernel
theorem dE_init_0 : decode mE_init.2.1 0 = .ok (.aload_n 0, 1) := by decide +kernel
theorem dE_init_1 : decode mE_init.2.1 1 = .ok (.invokespecial 3, 3) := by decide +kernel
theorem dE_init_4 : decode mE_init.2.1 4 = .ok (.aload_n 0, 1) := by decide +kernel
theorem dE_init_5 : decode mE_init.2.1 5 = .ok (.iconst 4, 1) := by decide +kernel
theorem dE_init_6 : decode mE_init.2.1 6 = .ok (.newarray .int, 2) := by decide +kernel
theorem dE_init_8 : decode mE_init.2.1 8 = .ok (.putfield 9, 3) := by decide +kernel
theorem dE_init_11 : decode mE_init.2.1 11 = .ok (.aload_n 0, 1) := by decide +kernel
theorem dE_init_12 : decode mE_init.2.1 12 = .ok (.iload_n 1, 1) := by decide +kernel
theorem dE_init_13 : decode mE_init.2.1 13 = .ok (.putfield 15, 3) := by decide +kernel
theorem dE_init_16 : decode mE_init.2.1 16 = .ok (.return_, 1) := by decide +kernel
theorem dE_becomeAs_0 : decode mE_becomeAs.2.1 0 = .ok (.aload_n 0, 1) := by decide +kernel
theorem dE_becomeAs_1 : decode mE_becomeAs.2.1 1 = .ok (.aload_n 1, 1) := by decide +kernel
theorem dE_becomeAs_2 : decode mE_becomeAs.2.1 2 = .ok (.getfield 19, 3) := by decide +kernel
theorem dE_becomeAs_5 : decode mE_becomeAs.2.1 5 = .ok (.putfield 19, 3) := by decide +kernel
theorem dE_becomeAs_8 : decode mE_becomeAs.2.1 8 = .ok (.aload_n 0, 1) := by decide +kernel
theorem dE_becomeAs_9 : decode mE_becomeAs.2.1 9 = .ok (.aload_n 1, 1) := by decide +kernel
theorem dE_becomeAs_10 : decode mE_becomeAs.2.1 10 = .ok (.getfield 22, 3) := by decide +kernel
theorem dE_becomeAs_13 : decode mE_becomeAs.2.1 13 = .ok (.putfield 22, 3) := by decide +kernel
theorem dE_becomeAs_16 : decode mE_becomeAs.2.1 16 = .ok (.aload_n 0, 1) := by decide +kernel
theorem dE_becomeAs_17 : decode mE_becomeAs.2.1 17 = .ok (.aload_n 1, 1) := by decide +kernel
theorem dE_becomeAs_18 : decode mE_becomeAs.2.1 18 = .ok (.getfield 25, 3) := by decide +kernel
theorem dE_becomeAs_21 : decode mE_becomeAs.2.1 21 = .ok (.putfield 25, 3) := by decide +kernel
theorem dE_becomeAs_24 : decode mE_becomeAs.2.1 24 = .ok (.aload_n 0, 1) := by decide +kernel
theorem dE_becomeAs_25 : decode mE_becomeAs.2.1 25 = .ok (.aload_n 1, 1) := by decide +kernel
theorem dE_becomeAs_26 : decode mE_becomeAs.2.1 26 = .ok (.getfield 28, 3) := by decide +kernel
theorem dE_becomeAs_29 : decode mE_becomeAs.2.1 29 = .ok (.putfield 28, 3) := by decide +kernel
theorem dE_becomeAs_32 : decode mE_becomeAs.2.1 32 = .ok (.aload_n 0, 1) := by decide +kernel
theorem dE_becomeAs_33 : decode mE_becomeAs.2.1 33 = .ok (.aload_n 1, 1) := by decide +kernel
theorem dE_becomeAs_34 : decode mE_becomeAs.2.1 34 = .ok (.getfield 31, 3) := by decide +kernel
theorem dE_becomeAs_37 : decode mE_becomeAs.2.1 37 = .ok (.putfield 31, 3) := by decide +kernel
theorem dE_becomeAs_40 : decode mE_becomeAs.2.1 40 = .ok (.aload_n 1, 1) := by decide +kernel
theorem dE_becomeAs_41 : decode mE_becomeAs.2.1 41 = .ok (.getfield 9, 3) := by decide +kernel
theorem dE_becomeAs_44 : decode mE_becomeAs.2.1 44 = .ok (.iconst 0, 1) := by decide +kernel
theorem dE_becomeAs_45 : decode mE_becomeAs.2.1 45 = .ok (.aload_n 0, 1) := by decide +kernel
theorem dE_becomeAs_46 : decode mE_becomeAs.2.1 46 = .ok (.getfield 9, 3) := by decide +kernel
theorem dE_becomeAs_49 : decode mE_becomeAs.2.1 49 = .ok (.iconst 0, 1) := by decide +kernel
theorem dE_becomeAs_50 : decode mE_becomeAs.2.1 50 = .ok (.iconst 4, 1) := by decide +kernel
theorem dE_becomeAs_51 : decode mE_becomeAs.2.1 51 = .ok (.invokestatic 34, 3) := by decide +kernel
theorem dE_becomeAs_54 : decode mE_becomeAs.2.1 54 = .ok (.return_, 1) := by decide +kernel
theorem dF_init_0 : decode mF_init.2.1 0 = .ok (.aload_n 0, 1) := by decide +kernel
theorem dF_init_1 : decode mF_init.2.1 1 = .ok (.invokespecial 3, 3) := by decide +kernel
theorem dF_init_4 : decode mF_init.2.1 4 = .ok (.aload_n 0, 1) := by decide +kernel
theorem dF_init_5 : decode mF_init.2.1 5 = .ok (.bipush 6, 2) := by decide +kernel
theorem dF_init_7 : decode mF_init.2.1 7 = .ok (.newarray .int, 2) := by decide +kernel
theorem dF_init_9 : decode mF_init.2.1 9 = .ok (.putfield 9, 3) := by decide +kernel
theorem dF_init_12 : decode mF_init.2.1 12 = .ok (.aload_n 0, 1) := by decide +kernel
theorem dF_init_13 : decode mF_init.2.1 13 = .ok (.bipush 8, 2) := by decide +kernel
theorem dF_init_15 : decode mF_init.2.1 15 = .ok (.anewarray 15, 3) := by decide +kernel
theorem dF_init_18 : decode mF_init.2.1 18 = .ok (.putfield 17, 3) := by decide +kernel
theorem dF_init_21 : decode mF_init.2.1 21 = .ok (.aload_n 0, 1) := by decide +kernel
theorem dF_init_22 : decode mF_init.2.1 22 = .ok (.iconst (-1), 1) := by decide +kernel
theorem dF_init_23 : decode mF_init.2.1 23 = .ok (.putfield 21, 3) := by decide +kernel
theorem dF_init_26 : decode mF_init.2.1 26 = .ok (.aload_n 0, 1) := by decide +kernel
theorem dF_init_27 : decode mF_init.2.1 27 = .ok (.new 25, 3) := by decide +kernel
theorem dF_init_30 : decode mF_init.2.1 30 = .ok (.dup, 1) := by decide +kernel
theorem dF_init_31 : decode mF_init.2.1 31 = .ok (.invokespecial 27, 3) := by decide +kernel
theorem dF_init_34 : decode mF_init.2.1 34 = .ok (.putfield 28, 3) := by decide +kernel
theorem dF_init_37 : decode mF_init.2.1 37 = .ok (.aload_n 0, 1) := by decide +kernel
theorem dF_init_38 : decode mF_init.2.1 38 = .ok (.new 25, 3) := by decide +kernel
theorem dF_init_41 : decode mF_init.2.1 41 = .ok (.dup, 1) := by decide +kernel
theorem dF_init_42 : decode mF_init.2.1 42 = .ok (.invokespecial 27, 3) := by decide +kernel
theorem dF_init_45 : decode mF_init.2.1 45 = .ok (.putfield 32, 3) := by decide +kernel
theorem dF_init_48 : decode mF_init.2.1 48 = .ok (.iconst 0, 1) := by decide +kernel
theorem dF_init_49 : decode mF_init.2.1 49 = .ok (.istore_n 1, 1) := by decide +kernel
theorem dF_init_50 : decode mF_init.2.1 50 = .ok (.iload_n 1, 1) := by decide +kernel
theorem dF_init_51 : decode mF_init.2.1 51 = .ok (.bipush 8, 2) := by decide +kernel
theorem dF_init_53 : decode mF_init.2.1 53 = .ok (.if_icmp .ge 23, 3) := by decide +kernel
theorem dF_init_56 : decode mF_init.2.1 56 = .ok (.aload_n 0, 1) := by decide +kernel
theorem dF_init_57 : decode mF_init.2.1 57 = .ok (.getfield 17, 3) := by decide +kernel
theorem dF_init_60 : decode mF_init.2.1 60 = .ok (.iload_n 1, 1) := by decide +kernel
theorem dF_init_61 : decode mF_init.2.1 61 = .ok (.new 15, 3) := by decide +kernel
theorem dF_init_64 : decode mF_init.2.1 64 = .ok (.dup, 1) := by decide +kernel
theorem dF_init_65 : decode mF_init.2.1 65 = .ok (.iload_n 1, 1) := by decide +kernel
theorem dF_init_66 : decode mF_init.2.1 66 = .ok (.invokespecial 35, 3) := by decide +kernel
theorem dF_init_69 : decode mF_init.2.1 69 = .ok (.aastore, 1) := by decide +kernel
theorem dF_init_70 : decode mF_init.2.1 70 = .ok (.iinc 1 1, 3) := by decide +kernel
theorem dF_init_73 : decode mF_init.2.1 73 = .ok (.goto (-23), 3) := by decide +kernel
theorem dF_init_76 : decode mF_init.2.1 76 = .ok (.return_, 1) := by decide +kernel
theorem dF_becomeAs_0 : decode mF_becomeAs.2.1 0 = .ok (.aload_n 0, 1) := by decide +kernel
theorem dF_becomeAs_1 : decode mF_becomeAs.2.1 1 = .ok (.aload_n 1, 1) := by decide +kernel
theorem dF_becomeAs_2 : decode mF_becomeAs.2.1 2 = .ok (.getfield 38, 3) := by decide +kernel
theorem dF_becomeAs_5 : decode mF_becomeAs.2.1 5 = .ok (.putfield 38, 3) := by decide +kernel
theorem dF_becomeAs_8 : decode mF_becomeAs.2.1 8 = .ok (.aload_n 1, 1) := by decide +kernel
theorem dF_becomeAs_9 : decode mF_becomeAs.2.1 9 = .ok (.getfield 9, 3) := by decide +kernel
theorem dF_becomeAs_12 : decode mF_becomeAs.2.1 12 = .ok (.iconst 0, 1) := by decide +kernel
theorem dF_becomeAs_13 : decode mF_becomeAs.2.1 13 = .ok (.aload_n 0, 1) := by decide +kernel
theorem dF_becomeAs_14 : decode mF_becomeAs.2.1 14 = .ok (.getfield 9, 3) := by decide +kernel
theorem dF_becomeAs_17 : decode mF_becomeAs.2.1 17 = .ok (.iconst 0, 1) := by decide +kernel
theorem dF_becomeAs_18 : decode mF_becomeAs.2.1 18 = .ok (.bipush 6, 2) := by decide +kernel
theorem dF_becomeAs_20 : decode mF_becomeAs.2.1 20 = .ok (.invokestatic 41, 3) := by decide +kernel
theorem dF_becomeAs_23 : decode mF_becomeAs.2.1 23 = .ok (.aload_n 0, 1) := by decide +kernel
theorem dF_becomeAs_24 : decode mF_becomeAs.2.1 24 = .ok (.aload_n 1, 1) := by decide +kernel
theorem dF_becomeAs_25 : decode mF_becomeAs.2.1 25 = .ok (.getfield 47, 3) := by decide +kernel
theorem dF_becomeAs_28 : decode mF_becomeAs.2.1 28 = .ok (.putfield 47, 3) := by decide +kernel
theorem dF_becomeAs_31 : decode mF_becomeAs.2.1 31 = .ok (.iconst 0, 1) := by decide +kernel
theorem dF_becomeAs_32 : decode mF_becomeAs.2.1 32 = .ok (.istore_n 2, 1) := by decide +kernel
theorem dF_becomeAs_33 : decode mF_becomeAs.2.1 33 = .ok (.iload_n 2, 1) := by decide +kernel
theorem dF_becomeAs_34 : decode mF_becomeAs.2.1 34 = .ok (.bipush 8, 2) := by decide +kernel
theorem dF_becomeAs_36 : decode mF_becomeAs.2.1 36 = .ok (.if_icmp .ge 24, 3) := by decide +kernel
theorem dF_becomeAs_39 : decode mF_becomeAs.2.1 39 = .ok (.aload_n 0, 1) := by decide +kernel
theorem dF_becomeAs_40 : decode mF_becomeAs.2.1 40 = .ok (.getfield 17, 3) := by decide +kernel
theorem dF_becomeAs_43 : decode mF_becomeAs.2.1 43 = .ok (.iload_n 2, 1) := by decide +kernel
theorem dF_becomeAs_44 : decode mF_becomeAs.2.1 44 = .ok (.aaload, 1) := by decide +kernel
theorem dF_becomeAs_45 : decode mF_becomeAs.2.1 45 = .ok (.aload_n 1, 1) := by decide +kernel
theorem dF_becomeAs_46 : decode mF_becomeAs.2.1 46 = .ok (.getfield 17, 3) := by decide +kernel
theorem dF_becomeAs_49 : decode mF_becomeAs.2.1 49 = .ok (.iload_n 2, 1) := by decide +kernel
theorem dF_becomeAs_50 : decode mF_becomeAs.2.1 50 = .ok (.aaload, 1) := by decide +kernel
theorem dF_becomeAs_51 : decode mF_becomeAs.2.1 51 = .ok (.invokevirtual 50, 3) := by decide +kernel
theorem dF_becomeAs_54 : decode mF_becomeAs.2.1 54 = .ok (.iinc 2 1, 3) := by decide +kernel
theorem dF_becomeAs_57 : decode mF_becomeAs.2.1 57 = .ok (.goto (-24), 3) := by decide +kernel
theorem dF_becomeAs_60 : decode mF_becomeAs.2.1 60 = .ok (.aload_n 0, 1) := by decide +kernel
theorem dF_becomeAs_61 : decode mF_becomeAs.2.1 61 = .ok (.aload_n 1, 1) := by decide +kernel
theorem dF_becomeAs_62 : decode mF_becomeAs.2.1 62 = .ok (.getfield 54, 3) := by decide +kernel
theorem dF_becomeAs_65 : decode mF_becomeAs.2.1 65 = .ok (.putfield 54, 3) := by decide +kernel
theorem dF_becomeAs_68 : decode mF_becomeAs.2.1 68 = .ok (.aload_n 0, 1) := by decide +kernel
theorem dF_becomeAs_69 : decode mF_becomeAs.2.1 69 = .ok (.aload_n 1, 1) := by decide +kernel
theorem dF_becomeAs_70 : decode mF_becomeAs.2.1 70 = .ok (.getfield 57, 3) := by decide +kernel
theorem dF_becomeAs_73 : decode mF_becomeAs.2.1 73 = .ok (.putfield 57, 3) := by decide +kernel
theorem dF_becomeAs_76 : decode mF_becomeAs.2.1 76 = .ok (.aload_n 0, 1) := by decide +kernel
theorem dF_becomeAs_77 : decode mF_becomeAs.2.1 77 = .ok (.aload_n 1, 1) := by decide +kernel
theorem dF_becomeAs_78 : decode mF_becomeAs.2.1 78 = .ok (.getfield 21, 3) := by decide +kernel
theorem dF_becomeAs_81 : decode mF_becomeAs.2.1 81 = .ok (.putfield 21, 3) := by decide +kernel
theorem dF_becomeAs_84 : decode mF_becomeAs.2.1 84 = .ok (.aload_n 0, 1) := by decide +kernel
theorem dF_becomeAs_85 : decode mF_becomeAs.2.1 85 = .ok (.getfield 28, 3) := by decide +kernel
theorem dF_becomeAs_88 : decode mF_becomeAs.2.1 88 = .ok (.aload_n 1, 1) := by decide +kernel
theorem dF_becomeAs_89 : decode mF_becomeAs.2.1 89 = .ok (.getfield 28, 3) := by decide +kernel
theorem dF_becomeAs_92 : decode mF_becomeAs.2.1 92 = .ok (.invokevirtual 60, 3) := by decide +kernel
theorem dF_becomeAs_95 : decode mF_becomeAs.2.1 95 = .ok (.aload_n 0, 1) := by decide +kernel
theorem dF_becomeAs_96 : decode mF_becomeAs.2.1 96 = .ok (.getfield 32, 3) := by decide +kernel
theorem dF_becomeAs_99 : decode mF_becomeAs.2.1 99 = .ok (.aload_n 1, 1) := by decide +kernel
theorem dF_becomeAs_100 : decode mF_becomeAs.2.1 100 = .ok (.getfield 32, 3) := by decide +kernel
theorem dF_becomeAs_103 : decode mF_becomeAs.2.1 103 = .ok (.invokevirtual 60, 3) := by decide +kernel
theorem dF_becomeAs_106 : decode mF_becomeAs.2.1 106 = .ok (.return_, 1) := by decide +kernel
theorem dF_addWorld_0 : decode mF_addWorld.2.1 0 = .ok (.aload_n 0, 1) := by decide +kernel
theorem dF_addWorld_1 : decode mF_addWorld.2.1 1 = .ok (.getfield 38, 3) := by decide +kernel
theorem dF_addWorld_4 : decode mF_addWorld.2.1 4 = .ok (.bipush 6, 2) := by decide +kernel
theorem dF_addWorld_6 : decode mF_addWorld.2.1 6 = .ok (.if_icmp .lt 6, 3) := by decide +kernel
theorem dF_addWorld_9 : decode mF_addWorld.2.1 9 = .ok (.bipush (-4), 2) := by decide +kernel
theorem dF_addWorld_11 : decode mF_addWorld.2.1 11 = .ok (.ireturn, 1) := by decide +kernel
theorem dF_addWorld_12 : decode mF_addWorld.2.1 12 = .ok (.aload_n 0, 1) := by decide +kernel
theorem dF_addWorld_13 : decode mF_addWorld.2.1 13 = .ok (.getfield 9, 3) := by decide +kernel
theorem dF_addWorld_16 : decode mF_addWorld.2.1 16 = .ok (.aload_n 0, 1) := by decide +kernel
theorem dF_addWorld_17 : decode mF_addWorld.2.1 17 = .ok (.getfield 38, 3) := by decide +kernel
theorem dF_addWorld_20 : decode mF_addWorld.2.1 20 = .ok (.iload_n 1, 1) := by decide +kernel
theorem dF_addWorld_21 : decode mF_addWorld.2.1 21 = .ok (.iastore, 1) := by decide +kernel
theorem dF_addWorld_22 : decode mF_addWorld.2.1 22 = .ok (.aload_n 0, 1) := by decide +kernel
theorem dF_addWorld_23 : decode mF_addWorld.2.1 23 = .ok (.dup, 1) := by decide +kernel
theorem dF_addWorld_24 : decode mF_addWorld.2.1 24 = .ok (.getfield 38, 3) := by decide +kernel
theorem dF_addWorld_27 : decode mF_addWorld.2.1 27 = .ok (.iconst 1, 1) := by decide +kernel
theorem dF_addWorld_28 : decode mF_addWorld.2.1 28 = .ok (.iadd, 1) := by decide +kernel
theorem dF_addWorld_29 : decode mF_addWorld.2.1 29 = .ok (.putfield 38, 3) := by decide +kernel
theorem dF_addWorld_32 : decode mF_addWorld.2.1 32 = .ok (.aload_n 0, 1) := by decide +kernel
theorem dF_addWorld_33 : decode mF_addWorld.2.1 33 = .ok (.getfield 38, 3) := by decide +kernel
theorem dF_addWorld_36 : decode mF_addWorld.2.1 36 = .ok (.iconst 1, 1) := by decide +kernel
theorem dF_addWorld_37 : decode mF_addWorld.2.1 37 = .ok (.isub, 1) := by decide +kernel
theorem dF_addWorld_38 : decode mF_addWorld.2.1 38 = .ok (.ireturn, 1) := by decide +kernel
theorem dF_addEnvelope_0 : decode mF_addEnvelope.2.1 0 = .ok (.aload_n 0, 1) := by decide +kernel
theorem dF_addEnvelope_1 : decode mF_addEnvelope.2.1 1 = .ok (.getfield 47, 3) := by decide +kernel
theorem dF_addEnvelope_4 : decode mF_addEnvelope.2.1 4 = .ok (.bipush 8, 2) := by decide +kernel
theorem dF_addEnvelope_6 : decode mF_addEnvelope.2.1 6 = .ok (.if_icmp .lt 6, 3) := by decide +kernel
theorem dF_addEnvelope_9 : decode mF_addEnvelope.2.1 9 = .ok (.bipush (-4), 2) := by decide +kernel
theorem dF_addEnvelope_11 : decode mF_addEnvelope.2.1 11 = .ok (.ireturn, 1) := by decide +kernel
theorem dF_addEnvelope_12 : decode mF_addEnvelope.2.1 12 = .ok (.aload_n 0, 1) := by decide +kernel
theorem dF_addEnvelope_13 : decode mF_addEnvelope.2.1 13 = .ok (.getfield 17, 3) := by decide +kernel
theorem dF_addEnvelope_16 : decode mF_addEnvelope.2.1 16 = .ok (.aload_n 0, 1) := by decide +kernel
theorem dF_addEnvelope_17 : decode mF_addEnvelope.2.1 17 = .ok (.getfield 47, 3) := by decide +kernel
theorem dF_addEnvelope_20 : decode mF_addEnvelope.2.1 20 = .ok (.aaload, 1) := by decide +kernel
theorem dF_addEnvelope_21 : decode mF_addEnvelope.2.1 21 = .ok (.astore 5, 2) := by decide +kernel
theorem dF_addEnvelope_23 : decode mF_addEnvelope.2.1 23 = .ok (.aload 5, 2) := by decide +kernel
theorem dF_addEnvelope_25 : decode mF_addEnvelope.2.1 25 = .ok (.iload_n 1, 1) := by decide +kernel
theorem dF_addEnvelope_26 : decode mF_addEnvelope.2.1 26 = .ok (.putfield 63, 3) := by decide +kernel
theorem dF_addEnvelope_29 : decode mF_addEnvelope.2.1 29 = .ok (.aload 5, 2) := by decide +kernel
theorem dF_addEnvelope_31 : decode mF_addEnvelope.2.1 31 = .ok (.iload_n 2, 1) := by decide +kernel
theorem dF_addEnvelope_32 : decode mF_addEnvelope.2.1 32 = .ok (.putfield 66, 3) := by decide +kernel
theorem dF_addEnvelope_35 : decode mF_addEnvelope.2.1 35 = .ok (.aload 5, 2) := by decide +kernel
theorem dF_addEnvelope_37 : decode mF_addEnvelope.2.1 37 = .ok (.iload_n 3, 1) := by decide +kernel
theorem dF_addEnvelope_38 : decode mF_addEnvelope.2.1 38 = .ok (.putfield 69, 3) := by decide +kernel
theorem dF_addEnvelope_41 : decode mF_addEnvelope.2.1 41 = .ok (.aload 5, 2) := by decide +kernel
theorem dF_addEnvelope_43 : decode mF_addEnvelope.2.1 43 = .ok (.iload 4, 2) := by decide +kernel
theorem dF_addEnvelope_45 : decode mF_addEnvelope.2.1 45 = .ok (.putfield 72, 3) := by decide +kernel
theorem dF_addEnvelope_48 : decode mF_addEnvelope.2.1 48 = .ok (.aload 5, 2) := by decide +kernel
theorem dF_addEnvelope_50 : decode mF_addEnvelope.2.1 50 = .ok (.aload_n 0, 1) := by decide +kernel
theorem dF_addEnvelope_51 : decode mF_addEnvelope.2.1 51 = .ok (.getfield 54, 3) := by decide +kernel
theorem dF_addEnvelope_54 : decode mF_addEnvelope.2.1 54 = .ok (.putfield 75, 3) := by decide +kernel
theorem dF_addEnvelope_57 : decode mF_addEnvelope.2.1 57 = .ok (.iconst 0, 1) := by decide +kernel
theorem dF_addEnvelope_58 : decode mF_addEnvelope.2.1 58 = .ok (.istore 6, 2) := by decide +kernel
theorem dF_addEnvelope_60 : decode mF_addEnvelope.2.1 60 = .ok (.iload 6, 2) := by decide +kernel
theorem dF_addEnvelope_62 : decode mF_addEnvelope.2.1 62 = .ok (.iconst 4, 1) := by decide +kernel
theorem dF_addEnvelope_63 : decode mF_addEnvelope.2.1 63 = .ok (.if_icmp .ge 18, 3) := by decide +kernel
theorem dF_addEnvelope_66 : decode mF_addEnvelope.2.1 66 = .ok (.aload 5, 2) := by decide +kernel
theorem dF_addEnvelope_68 : decode mF_addEnvelope.2.1 68 = .ok (.getfield 78, 3) := by decide +kernel
theorem dF_addEnvelope_71 : decode mF_addEnvelope.2.1 71 = .ok (.iload 6, 2) := by decide +kernel
theorem dF_addEnvelope_73 : decode mF_addEnvelope.2.1 73 = .ok (.iconst 0, 1) := by decide +kernel
theorem dF_addEnvelope_74 : decode mF_addEnvelope.2.1 74 = .ok (.iastore, 1) := by decide +kernel
theorem dF_addEnvelope_75 : decode mF_addEnvelope.2.1 75 = .ok (.iinc 6 1, 3) := by decide +kernel
theorem dF_addEnvelope_78 : decode mF_addEnvelope.2.1 78 = .ok (.goto (-18), 3) := by decide +kernel
theorem dF_addEnvelope_81 : decode mF_addEnvelope.2.1 81 = .ok (.aload_n 0, 1) := by decide +kernel
theorem dF_addEnvelope_82 : decode mF_addEnvelope.2.1 82 = .ok (.dup, 1) := by decide +kernel
theorem dF_addEnvelope_83 : decode mF_addEnvelope.2.1 83 = .ok (.getfield 47, 3) := by decide +kernel
theorem dF_addEnvelope_86 : decode mF_addEnvelope.2.1 86 = .ok (.iconst 1, 1) := by decide +kernel
theorem dF_addEnvelope_87 : decode mF_addEnvelope.2.1 87 = .ok (.iadd, 1) := by decide +kernel
theorem dF_addEnvelope_88 : decode mF_addEnvelope.2.1 88 = .ok (.putfield 47, 3) := by decide +kernel
theorem dF_addEnvelope_91 : decode mF_addEnvelope.2.1 91 = .ok (.aload 5, 2) := by decide +kernel
theorem dF_addEnvelope_93 : decode mF_addEnvelope.2.1 93 = .ok (.getfield 81, 3) := by decide +kernel
theorem dF_addEnvelope_96 : decode mF_addEnvelope.2.1 96 = .ok (.ireturn, 1) := by decide +kernel
theorem dF_hasWorld_0 : decode mF_hasWorld.2.1 0 = .ok (.iload_n 1, 1) := by decide +kernel
theorem dF_hasWorld_1 : decode mF_hasWorld.2.1 1 = .ok (.ifCond .lt 15, 3) := by decide +kernel
theorem dF_hasWorld_4 : decode mF_hasWorld.2.1 4 = .ok (.iload_n 1, 1) := by decide +kernel
theorem dF_hasWorld_5 : decode mF_hasWorld.2.1 5 = .ok (.aload_n 0, 1) := by decide +kernel
theorem dF_hasWorld_6 : decode mF_hasWorld.2.1 6 = .ok (.getfield 38, 3) := by decide +kernel
theorem dF_hasWorld_9 : decode mF_hasWorld.2.1 9 = .ok (.if_icmp .ge 7, 3) := by decide +kernel
theorem dF_hasWorld_12 : decode mF_hasWorld.2.1 12 = .ok (.iconst 1, 1) := by decide +kernel
theorem dF_hasWorld_13 : decode mF_hasWorld.2.1 13 = .ok (.goto 4, 3) := by decide +kernel
theorem dF_hasWorld_16 : decode mF_hasWorld.2.1 16 = .ok (.iconst 0, 1) := by decide +kernel
theorem dF_hasWorld_17 : decode mF_hasWorld.2.1 17 = .ok (.ireturn, 1) := by decide +kernel
theorem dF_find_0 : decode mF_find.2.1 0 = .ok (.iload_n 1, 1) := by decide +kernel
theorem dF_find_1 : decode mF_find.2.1 1 = .ok (.ifCond .lt 20, 3) := by decide +kernel
theorem dF_find_4 : decode mF_find.2.1 4 = .ok (.iload_n 1, 1) := by decide +kernel
theorem dF_find_5 : decode mF_find.2.1 5 = .ok (.aload_n 0, 1) := by decide +kernel
theorem dF_find_6 : decode mF_find.2.1 6 = .ok (.getfield 47, 3) := by decide +kernel
theorem dF_find_9 : decode mF_find.2.1 9 = .ok (.if_icmp .ge 12, 3) := by decide +kernel
theorem dF_find_12 : decode mF_find.2.1 12 = .ok (.aload_n 0, 1) := by decide +kernel
theorem dF_find_13 : decode mF_find.2.1 13 = .ok (.getfield 17, 3) := by decide +kernel
theorem dF_find_16 : decode mF_find.2.1 16 = .ok (.iload_n 1, 1) := by decide +kernel
theorem dF_find_17 : decode mF_find.2.1 17 = .ok (.aaload, 1) := by decide +kernel
theorem dF_find_18 : decode mF_find.2.1 18 = .ok (.goto 4, 3) := by decide +kernel
theorem dF_find_21 : decode mF_find.2.1 21 = .ok (.aconst_null, 1) := by decide +kernel
theorem dF_find_22 : decode mF_find.2.1 22 = .ok (.areturn, 1) := by decide +kernel
theorem dF_allWorlds_0 : decode mF_allWorlds.2.1 0 = .ok (.iconst 1, 1) := by decide +kernel
theorem dF_allWorlds_1 : decode mF_allWorlds.2.1 1 = .ok (.aload_n 0, 1) := by decide +kernel
theorem dF_allWorlds_2 : decode mF_allWorlds.2.1 2 = .ok (.getfield 38, 3) := by decide +kernel
theorem dF_allWorlds_5 : decode mF_allWorlds.2.1 5 = .ok (.ishl, 1) := by decide +kernel
theorem dF_allWorlds_6 : decode mF_allWorlds.2.1 6 = .ok (.iconst 1, 1) := by decide +kernel
theorem dF_allWorlds_7 : decode mF_allWorlds.2.1 7 = .ok (.isub, 1) := by decide +kernel
theorem dF_allWorlds_8 : decode mF_allWorlds.2.1 8 = .ok (.ireturn, 1) := by decide +kernel
theorem dF_allEnvelopes_0 : decode mF_allEnvelopes.2.1 0 = .ok (.iconst 1, 1) := by decide +kernel
theorem dF_allEnvelopes_1 : decode mF_allEnvelopes.2.1 1 = .ok (.aload_n 0, 1) := by decide +kernel
theorem dF_allEnvelopes_2 : decode mF_allEnvelopes.2.1 2 = .ok (.getfield 47, 3) := by decide +kernel
theorem dF_allEnvelopes_5 : decode mF_allEnvelopes.2.1 5 = .ok (.ishl, 1) := by decide +kernel
theorem dF_allEnvelopes_6 : decode mF_allEnvelopes.2.1 6 = .ok (.iconst 1, 1) := by decide +kernel
theorem dF_allEnvelopes_7 : decode mF_allEnvelopes.2.1 7 = .ok (.isub, 1) := by decide +kernel
theorem dF_allEnvelopes_8 : decode mF_allEnvelopes.2.1 8 = .ok (.ireturn, 1) := by decide +kernel
theorem dF_chancesOf_0 : decode mF_chancesOf.2.1 0 = .ok (.iconst 0, 1) := by decide +kernel
theorem dF_chancesOf_1 : decode mF_chancesOf.2.1 1 = .ok (.istore_n 2, 1) := by decide +kernel
theorem dF_chancesOf_2 : decode mF_chancesOf.2.1 2 = .ok (.iconst 0, 1) := by decide +kernel
theorem dF_chancesOf_3 : decode mF_chancesOf.2.1 3 = .ok (.istore_n 3, 1) := by decide +kernel
theorem dF_chancesOf_4 : decode mF_chancesOf.2.1 4 = .ok (.iload_n 3, 1) := by decide +kernel
theorem dF_chancesOf_5 : decode mF_chancesOf.2.1 5 = .ok (.aload_n 0, 1) := by decide +kernel
theorem dF_chancesOf_6 : decode mF_chancesOf.2.1 6 = .ok (.getfield 38, 3) := by decide +kernel
theorem dF_chancesOf_9 : decode mF_chancesOf.2.1 9 = .ok (.if_icmp .ge 26, 3) := by decide +kernel
theorem dF_chancesOf_12 : decode mF_chancesOf.2.1 12 = .ok (.iload_n 1, 1) := by decide +kernel
theorem dF_chancesOf_13 : decode mF_chancesOf.2.1 13 = .ok (.iload_n 3, 1) := by decide +kernel
theorem dF_chancesOf_14 : decode mF_chancesOf.2.1 14 = .ok (.invokestatic 84, 3) := by decide +kernel
theorem dF_chancesOf_17 : decode mF_chancesOf.2.1 17 = .ok (.ifCond .eq 12, 3) := by decide +kernel
theorem dF_chancesOf_20 : decode mF_chancesOf.2.1 20 = .ok (.iload_n 2, 1) := by decide +kernel
theorem dF_chancesOf_21 : decode mF_chancesOf.2.1 21 = .ok (.aload_n 0, 1) := by decide +kernel
theorem dF_chancesOf_22 : decode mF_chancesOf.2.1 22 = .ok (.getfield 9, 3) := by decide +kernel
theorem dF_chancesOf_25 : decode mF_chancesOf.2.1 25 = .ok (.iload_n 3, 1) := by decide +kernel
theorem dF_chancesOf_26 : decode mF_chancesOf.2.1 26 = .ok (.iaload, 1) := by decide +kernel
theorem dF_chancesOf_27 : decode mF_chancesOf.2.1 27 = .ok (.iadd, 1) := by decide +kernel
theorem dF_chancesOf_28 : decode mF_chancesOf.2.1 28 = .ok (.istore_n 2, 1) := by decide +kernel
theorem dF_chancesOf_29 : decode mF_chancesOf.2.1 29 = .ok (.iinc 3 1, 3) := by decide +kernel
theorem dF_chancesOf_32 : decode mF_chancesOf.2.1 32 = .ok (.goto (-28), 3) := by decide +kernel
theorem dF_chancesOf_35 : decode mF_chancesOf.2.1 35 = .ok (.iload_n 2, 1) := by decide +kernel
theorem dF_chancesOf_36 : decode mF_chancesOf.2.1 36 = .ok (.ireturn, 1) := by decide +kernel
theorem dF_leftWorlds_0 : decode mF_leftWorlds.2.1 0 = .ok (.aload_n 0, 1) := by decide +kernel
theorem dF_leftWorlds_1 : decode mF_leftWorlds.2.1 1 = .ok (.invokevirtual 88, 3) := by decide +kernel
theorem dF_leftWorlds_4 : decode mF_leftWorlds.2.1 4 = .ok (.istore_n 1, 1) := by decide +kernel
theorem dF_leftWorlds_5 : decode mF_leftWorlds.2.1 5 = .ok (.iconst 0, 1) := by decide +kernel
theorem dF_leftWorlds_6 : decode mF_leftWorlds.2.1 6 = .ok (.istore_n 2, 1) := by decide +kernel
theorem dF_leftWorlds_7 : decode mF_leftWorlds.2.1 7 = .ok (.iload_n 2, 1) := by decide +kernel
theorem dF_leftWorlds_8 : decode mF_leftWorlds.2.1 8 = .ok (.aload_n 0, 1) := by decide +kernel
theorem dF_leftWorlds_9 : decode mF_leftWorlds.2.1 9 = .ok (.getfield 28, 3) := by decide +kernel
theorem dF_leftWorlds_12 : decode mF_leftWorlds.2.1 12 = .ok (.getfield 92, 3) := by decide +kernel
theorem dF_leftWorlds_15 : decode mF_leftWorlds.2.1 15 = .ok (.if_icmp .ge 56, 3) := by decide +kernel
theorem dF_leftWorlds_18 : decode mF_leftWorlds.2.1 18 = .ok (.aload_n 0, 1) := by decide +kernel
theorem dF_leftWorlds_19 : decode mF_leftWorlds.2.1 19 = .ok (.aload_n 0, 1) := by decide +kernel
theorem dF_leftWorlds_20 : decode mF_leftWorlds.2.1 20 = .ok (.getfield 28, 3) := by decide +kernel
theorem dF_leftWorlds_23 : decode mF_leftWorlds.2.1 23 = .ok (.iload_n 2, 1) := by decide +kernel
theorem dF_leftWorlds_24 : decode mF_leftWorlds.2.1 24 = .ok (.iconst 0, 1) := by decide +kernel
theorem dF_leftWorlds_25 : decode mF_leftWorlds.2.1 25 = .ok (.invokevirtual 95, 3) := by decide +kernel
theorem dF_leftWorlds_28 : decode mF_leftWorlds.2.1 28 = .ok (.invokevirtual 99, 3) := by decide +kernel
theorem dF_leftWorlds_31 : decode mF_leftWorlds.2.1 31 = .ok (.astore_n 3, 1) := by decide +kernel
theorem dF_leftWorlds_32 : decode mF_leftWorlds.2.1 32 = .ok (.aload_n 3, 1) := by decide +kernel
theorem dF_leftWorlds_33 : decode mF_leftWorlds.2.1 33 = .ok (.ifnull 32, 3) := by decide +kernel
theorem dF_leftWorlds_36 : decode mF_leftWorlds.2.1 36 = .ok (.iload_n 1, 1) := by decide +kernel
theorem dF_leftWorlds_37 : decode mF_leftWorlds.2.1 37 = .ok (.aload_n 0, 1) := by decide +kernel
theorem dF_leftWorlds_38 : decode mF_leftWorlds.2.1 38 = .ok (.getfield 28, 3) := by decide +kernel
theorem dF_leftWorlds_41 : decode mF_leftWorlds.2.1 41 = .ok (.iload_n 2, 1) := by decide +kernel
theorem dF_leftWorlds_42 : decode mF_leftWorlds.2.1 42 = .ok (.iconst 1, 1) := by decide +kernel
theorem dF_leftWorlds_43 : decode mF_leftWorlds.2.1 43 = .ok (.invokevirtual 95, 3) := by decide +kernel
theorem dF_leftWorlds_46 : decode mF_leftWorlds.2.1 46 = .ok (.iconst 1, 1) := by decide +kernel
theorem dF_leftWorlds_47 : decode mF_leftWorlds.2.1 47 = .ok (.if_icmp .ne 10, 3) := by decide +kernel
theorem dF_leftWorlds_50 : decode mF_leftWorlds.2.1 50 = .ok (.aload_n 3, 1) := by decide +kernel
theorem dF_leftWorlds_51 : decode mF_leftWorlds.2.1 51 = .ok (.getfield 69, 3) := by decide +kernel
theorem dF_leftWorlds_54 : decode mF_leftWorlds.2.1 54 = .ok (.goto 9, 3) := by decide +kernel
theorem dF_leftWorlds_57 : decode mF_leftWorlds.2.1 57 = .ok (.aload_n 3, 1) := by decide +kernel
theorem dF_leftWorlds_58 : decode mF_leftWorlds.2.1 58 = .ok (.getfield 69, 3) := by decide +kernel
theorem dF_leftWorlds_61 : decode mF_leftWorlds.2.1 61 = .ok (.iconst (-1), 1) := by decide +kernel
theorem dF_leftWorlds_62 : decode mF_leftWorlds.2.1 62 = .ok (.ixor, 1) := by decide +kernel
theorem dF_leftWorlds_63 : decode mF_leftWorlds.2.1 63 = .ok (.iand, 1) := by decide +kernel
theorem dF_leftWorlds_64 : decode mF_leftWorlds.2.1 64 = .ok (.istore_n 1, 1) := by decide +kernel
theorem dF_leftWorlds_65 : decode mF_leftWorlds.2.1 65 = .ok (.iinc 2 1, 3) := by decide +kernel
theorem dF_leftWorlds_68 : decode mF_leftWorlds.2.1 68 = .ok (.goto (-61), 3) := by decide +kernel
theorem dF_leftWorlds_71 : decode mF_leftWorlds.2.1 71 = .ok (.iload_n 1, 1) := by decide +kernel
theorem dF_leftWorlds_72 : decode mF_leftWorlds.2.1 72 = .ok (.ireturn, 1) := by decide +kernel
theorem dF_trueInAll_0 : decode mF_trueInAll.2.1 0 = .ok (.iconst 0, 1) := by decide +kernel
theorem dF_trueInAll_1 : decode mF_trueInAll.2.1 1 = .ok (.istore_n 2, 1) := by decide +kernel
theorem dF_trueInAll_2 : decode mF_trueInAll.2.1 2 = .ok (.iconst 0, 1) := by decide +kernel
theorem dF_trueInAll_3 : decode mF_trueInAll.2.1 3 = .ok (.istore_n 3, 1) := by decide +kernel
theorem dF_trueInAll_4 : decode mF_trueInAll.2.1 4 = .ok (.iload_n 3, 1) := by decide +kernel
theorem dF_trueInAll_5 : decode mF_trueInAll.2.1 5 = .ok (.aload_n 0, 1) := by decide +kernel
theorem dF_trueInAll_6 : decode mF_trueInAll.2.1 6 = .ok (.getfield 47, 3) := by decide +kernel
theorem dF_trueInAll_9 : decode mF_trueInAll.2.1 9 = .ok (.if_icmp .ge 35, 3) := by decide +kernel
theorem dF_trueInAll_12 : decode mF_trueInAll.2.1 12 = .ok (.iload_n 1, 1) := by decide +kernel
theorem dF_trueInAll_13 : decode mF_trueInAll.2.1 13 = .ok (.ifCond .eq 25, 3) := by decide +kernel
theorem dF_trueInAll_16 : decode mF_trueInAll.2.1 16 = .ok (.iload_n 1, 1) := by decide +kernel
theorem dF_trueInAll_17 : decode mF_trueInAll.2.1 17 = .ok (.aload_n 0, 1) := by decide +kernel
theorem dF_trueInAll_18 : decode mF_trueInAll.2.1 18 = .ok (.getfield 17, 3) := by decide +kernel
theorem dF_trueInAll_21 : decode mF_trueInAll.2.1 21 = .ok (.iload_n 3, 1) := by decide +kernel
theorem dF_trueInAll_22 : decode mF_trueInAll.2.1 22 = .ok (.aaload, 1) := by decide +kernel
theorem dF_trueInAll_23 : decode mF_trueInAll.2.1 23 = .ok (.getfield 69, 3) := by decide +kernel
theorem dF_trueInAll_26 : decode mF_trueInAll.2.1 26 = .ok (.iconst (-1), 1) := by decide +kernel
theorem dF_trueInAll_27 : decode mF_trueInAll.2.1 27 = .ok (.ixor, 1) := by decide +kernel
theorem dF_trueInAll_28 : decode mF_trueInAll.2.1 28 = .ok (.iand, 1) := by decide +kernel
theorem dF_trueInAll_29 : decode mF_trueInAll.2.1 29 = .ok (.ifCond .ne 9, 3) := by decide +kernel
theorem dF_trueInAll_32 : decode mF_trueInAll.2.1 32 = .ok (.iload_n 2, 1) := by decide +kernel
theorem dF_trueInAll_33 : decode mF_trueInAll.2.1 33 = .ok (.iconst 1, 1) := by decide +kernel
theorem dF_trueInAll_34 : decode mF_trueInAll.2.1 34 = .ok (.iload_n 3, 1) := by decide +kernel
theorem dF_trueInAll_35 : decode mF_trueInAll.2.1 35 = .ok (.ishl, 1) := by decide +kernel
theorem dF_trueInAll_36 : decode mF_trueInAll.2.1 36 = .ok (.ior, 1) := by decide +kernel
theorem dF_trueInAll_37 : decode mF_trueInAll.2.1 37 = .ok (.istore_n 2, 1) := by decide +kernel
theorem dF_trueInAll_38 : decode mF_trueInAll.2.1 38 = .ok (.iinc 3 1, 3) := by decide +kernel
theorem dF_trueInAll_41 : decode mF_trueInAll.2.1 41 = .ok (.goto (-37), 3) := by decide +kernel
theorem dF_trueInAll_44 : decode mF_trueInAll.2.1 44 = .ok (.iload_n 2, 1) := by decide +kernel
theorem dF_trueInAll_45 : decode mF_trueInAll.2.1 45 = .ok (.ireturn, 1) := by decide +kernel
theorem dF_othersFalseWith_0 : decode mF_othersFalseWith.2.1 0 = .ok (.iconst 0, 1) := by decide +kernel
theorem dF_othersFalseWith_1 : decode mF_othersFalseWith.2.1 1 = .ok (.istore_n 2, 1) := by decide +kernel
theorem dF_othersFalseWith_2 : decode mF_othersFalseWith.2.1 2 = .ok (.iconst 0, 1) := by decide +kernel
theorem dF_othersFalseWith_3 : decode mF_othersFalseWith.2.1 3 = .ok (.istore_n 3, 1) := by decide +kernel
theorem dF_othersFalseWith_4 : decode mF_othersFalseWith.2.1 4 = .ok (.iload_n 3, 1) := by decide +kernel
theorem dF_othersFalseWith_5 : decode mF_othersFalseWith.2.1 5 = .ok (.aload_n 0, 1) := by decide +kernel
theorem dF_othersFalseWith_6 : decode mF_othersFalseWith.2.1 6 = .ok (.getfield 47, 3) := by decide +kernel
theorem dF_othersFalseWith_9 : decode mF_othersFalseWith.2.1 9 = .ok (.if_icmp .ge 40, 3) := by decide +kernel
theorem dF_othersFalseWith_12 : decode mF_othersFalseWith.2.1 12 = .ok (.iload_n 3, 1) := by decide +kernel
theorem dF_othersFalseWith_13 : decode mF_othersFalseWith.2.1 13 = .ok (.aload_n 1, 1) := by decide +kernel
theorem dF_othersFalseWith_14 : decode mF_othersFalseWith.2.1 14 = .ok (.getfield 81, 3) := by decide +kernel
theorem dF_othersFalseWith_17 : decode mF_othersFalseWith.2.1 17 = .ok (.if_icmp .eq 26, 3) := by decide +kernel
theorem dF_othersFalseWith_20 : decode mF_othersFalseWith.2.1 20 = .ok (.aload_n 0, 1) := by decide +kernel
theorem dF_othersFalseWith_21 : decode mF_othersFalseWith.2.1 21 = .ok (.getfield 17, 3) := by decide +kernel
theorem dF_othersFalseWith_24 : decode mF_othersFalseWith.2.1 24 = .ok (.iload_n 3, 1) := by decide +kernel
theorem dF_othersFalseWith_25 : decode mF_othersFalseWith.2.1 25 = .ok (.aaload, 1) := by decide +kernel
theorem dF_othersFalseWith_26 : decode mF_othersFalseWith.2.1 26 = .ok (.getfield 69, 3) := by decide +kernel
theorem dF_othersFalseWith_29 : decode mF_othersFalseWith.2.1 29 = .ok (.aload_n 1, 1) := by decide +kernel
theorem dF_othersFalseWith_30 : decode mF_othersFalseWith.2.1 30 = .ok (.getfield 69, 3) := by decide +kernel
theorem dF_othersFalseWith_33 : decode mF_othersFalseWith.2.1 33 = .ok (.iand, 1) := by decide +kernel
theorem dF_othersFalseWith_34 : decode mF_othersFalseWith.2.1 34 = .ok (.ifCond .ne 9, 3) := by decide +kernel
theorem dF_othersFalseWith_37 : decode mF_othersFalseWith.2.1 37 = .ok (.iload_n 2, 1) := by decide +kernel
theorem dF_othersFalseWith_38 : decode mF_othersFalseWith.2.1 38 = .ok (.iconst 1, 1) := by decide +kernel
theorem dF_othersFalseWith_39 : decode mF_othersFalseWith.2.1 39 = .ok (.iload_n 3, 1) := by decide +kernel
theorem dF_othersFalseWith_40 : decode mF_othersFalseWith.2.1 40 = .ok (.ishl, 1) := by decide +kernel
theorem dF_othersFalseWith_41 : decode mF_othersFalseWith.2.1 41 = .ok (.ior, 1) := by decide +kernel
theorem dF_othersFalseWith_42 : decode mF_othersFalseWith.2.1 42 = .ok (.istore_n 2, 1) := by decide +kernel
theorem dF_othersFalseWith_43 : decode mF_othersFalseWith.2.1 43 = .ok (.iinc 3 1, 3) := by decide +kernel
theorem dF_othersFalseWith_46 : decode mF_othersFalseWith.2.1 46 = .ok (.goto (-42), 3) := by decide +kernel
theorem dF_othersFalseWith_49 : decode mF_othersFalseWith.2.1 49 = .ok (.iload_n 2, 1) := by decide +kernel
theorem dF_othersFalseWith_50 : decode mF_othersFalseWith.2.1 50 = .ok (.ireturn, 1) := by decide +kernel
theorem dF_pricesIn_0 : decode mF_pricesIn.2.1 0 = .ok (.iconst 0, 1) := by decide +kernel
theorem dF_pricesIn_1 : decode mF_pricesIn.2.1 1 = .ok (.istore_n 2, 1) := by decide +kernel
theorem dF_pricesIn_2 : decode mF_pricesIn.2.1 2 = .ok (.iconst 0, 1) := by decide +kernel
theorem dF_pricesIn_3 : decode mF_pricesIn.2.1 3 = .ok (.istore_n 3, 1) := by decide +kernel
theorem dF_pricesIn_4 : decode mF_pricesIn.2.1 4 = .ok (.iload_n 3, 1) := by decide +kernel
theorem dF_pricesIn_5 : decode mF_pricesIn.2.1 5 = .ok (.aload_n 0, 1) := by decide +kernel
theorem dF_pricesIn_6 : decode mF_pricesIn.2.1 6 = .ok (.getfield 47, 3) := by decide +kernel
theorem dF_pricesIn_9 : decode mF_pricesIn.2.1 9 = .ok (.if_icmp .ge 37, 3) := by decide +kernel
theorem dF_pricesIn_12 : decode mF_pricesIn.2.1 12 = .ok (.aload_n 0, 1) := by decide +kernel
theorem dF_pricesIn_13 : decode mF_pricesIn.2.1 13 = .ok (.getfield 17, 3) := by decide +kernel
theorem dF_pricesIn_16 : decode mF_pricesIn.2.1 16 = .ok (.iload_n 3, 1) := by decide +kernel
theorem dF_pricesIn_17 : decode mF_pricesIn.2.1 17 = .ok (.aaload, 1) := by decide +kernel
theorem dF_pricesIn_18 : decode mF_pricesIn.2.1 18 = .ok (.getfield 69, 3) := by decide +kernel
theorem dF_pricesIn_21 : decode mF_pricesIn.2.1 21 = .ok (.iload_n 1, 1) := by decide +kernel
theorem dF_pricesIn_22 : decode mF_pricesIn.2.1 22 = .ok (.invokestatic 84, 3) := by decide +kernel
theorem dF_pricesIn_25 : decode mF_pricesIn.2.1 25 = .ok (.ifCond .eq 15, 3) := by decide +kernel
theorem dF_pricesIn_28 : decode mF_pricesIn.2.1 28 = .ok (.iload_n 2, 1) := by decide +kernel
theorem dF_pricesIn_29 : decode mF_pricesIn.2.1 29 = .ok (.aload_n 0, 1) := by decide +kernel
theorem dF_pricesIn_30 : decode mF_pricesIn.2.1 30 = .ok (.getfield 17, 3) := by decide +kernel
theorem dF_pricesIn_33 : decode mF_pricesIn.2.1 33 = .ok (.iload_n 3, 1) := by decide +kernel
theorem dF_pricesIn_34 : decode mF_pricesIn.2.1 34 = .ok (.aaload, 1) := by decide +kernel
theorem dF_pricesIn_35 : decode mF_pricesIn.2.1 35 = .ok (.getfield 72, 3) := by decide +kernel
theorem dF_pricesIn_38 : decode mF_pricesIn.2.1 38 = .ok (.iadd, 1) := by decide +kernel
theorem dF_pricesIn_39 : decode mF_pricesIn.2.1 39 = .ok (.istore_n 2, 1) := by decide +kernel
theorem dF_pricesIn_40 : decode mF_pricesIn.2.1 40 = .ok (.iinc 3 1, 3) := by decide +kernel
theorem dF_pricesIn_43 : decode mF_pricesIn.2.1 43 = .ok (.goto (-39), 3) := by decide +kernel
theorem dF_pricesIn_46 : decode mF_pricesIn.2.1 46 = .ok (.iload_n 2, 1) := by decide +kernel
theorem dF_pricesIn_47 : decode mF_pricesIn.2.1 47 = .ok (.ireturn, 1) := by decide +kernel
theorem dF_dearestWorld_0 : decode mF_dearestWorld.2.1 0 = .ok (.iconst 0, 1) := by decide +kernel
theorem dF_dearestWorld_1 : decode mF_dearestWorld.2.1 1 = .ok (.istore_n 1, 1) := by decide +kernel
theorem dF_dearestWorld_2 : decode mF_dearestWorld.2.1 2 = .ok (.iconst 1, 1) := by decide +kernel
theorem dF_dearestWorld_3 : decode mF_dearestWorld.2.1 3 = .ok (.istore_n 2, 1) := by decide +kernel
theorem dF_dearestWorld_4 : decode mF_dearestWorld.2.1 4 = .ok (.iload_n 2, 1) := by decide +kernel
theorem dF_dearestWorld_5 : decode mF_dearestWorld.2.1 5 = .ok (.aload_n 0, 1) := by decide +kernel
theorem dF_dearestWorld_6 : decode mF_dearestWorld.2.1 6 = .ok (.getfield 38, 3) := by decide +kernel
theorem dF_dearestWorld_9 : decode mF_dearestWorld.2.1 9 = .ok (.if_icmp .ge 24, 3) := by decide +kernel
theorem dF_dearestWorld_12 : decode mF_dearestWorld.2.1 12 = .ok (.aload_n 0, 1) := by decide +kernel
theorem dF_dearestWorld_13 : decode mF_dearestWorld.2.1 13 = .ok (.iload_n 2, 1) := by decide +kernel
theorem dF_dearestWorld_14 : decode mF_dearestWorld.2.1 14 = .ok (.invokevirtual 103, 3) := by decide +kernel
theorem dF_dearestWorld_17 : decode mF_dearestWorld.2.1 17 = .ok (.aload_n 0, 1) := by decide +kernel
theorem dF_dearestWorld_18 : decode mF_dearestWorld.2.1 18 = .ok (.iload_n 1, 1) := by decide +kernel
theorem dF_dearestWorld_19 : decode mF_dearestWorld.2.1 19 = .ok (.invokevirtual 103, 3) := by decide +kernel
theorem dF_dearestWorld_22 : decode mF_dearestWorld.2.1 22 = .ok (.if_icmp .le 5, 3) := by decide +kernel
theorem dF_dearestWorld_25 : decode mF_dearestWorld.2.1 25 = .ok (.iload_n 2, 1) := by decide +kernel
theorem dF_dearestWorld_26 : decode mF_dearestWorld.2.1 26 = .ok (.istore_n 1, 1) := by decide +kernel
theorem dF_dearestWorld_27 : decode mF_dearestWorld.2.1 27 = .ok (.iinc 2 1, 3) := by decide +kernel
theorem dF_dearestWorld_30 : decode mF_dearestWorld.2.1 30 = .ok (.goto (-26), 3) := by decide +kernel
theorem dF_dearestWorld_33 : decode mF_dearestWorld.2.1 33 = .ok (.iload_n 1, 1) := by decide +kernel
theorem dF_dearestWorld_34 : decode mF_dearestWorld.2.1 34 = .ok (.ireturn, 1) := by decide +kernel
theorem dR_init_0 : decode mR_init.2.1 0 = .ok (.aload_n 0, 1) := by decide +kernel
theorem dR_init_1 : decode mR_init.2.1 1 = .ok (.invokespecial 3, 3) := by decide +kernel
theorem dR_init_4 : decode mR_init.2.1 4 = .ok (.aload_n 0, 1) := by decide +kernel
theorem dR_init_5 : decode mR_init.2.1 5 = .ok (.iconst 0, 1) := by decide +kernel
theorem dR_init_6 : decode mR_init.2.1 6 = .ok (.newarray .int, 2) := by decide +kernel
theorem dR_init_8 : decode mR_init.2.1 8 = .ok (.putfield 9, 3) := by decide +kernel
theorem dR_init_11 : decode mR_init.2.1 11 = .ok (.aload_n 0, 1) := by decide +kernel
theorem dR_init_12 : decode mR_init.2.1 12 = .ok (.aload_n 1, 1) := by decide +kernel
theorem dR_init_13 : decode mR_init.2.1 13 = .ok (.putfield 15, 3) := by decide +kernel
theorem dR_init_16 : decode mR_init.2.1 16 = .ok (.return_, 1) := by decide +kernel
theorem dR_reads_0 : decode mR_reads.2.1 0 = .ok (.aload_n 0, 1) := by decide +kernel
theorem dR_reads_1 : decode mR_reads.2.1 1 = .ok (.iload_n 1, 1) := by decide +kernel
theorem dR_reads_2 : decode mR_reads.2.1 2 = .ok (.putfield 18, 3) := by decide +kernel
theorem dR_reads_5 : decode mR_reads.2.1 5 = .ok (.aload_n 0, 1) := by decide +kernel
theorem dR_reads_6 : decode mR_reads.2.1 6 = .ok (.aload_n 2, 1) := by decide +kernel
theorem dR_reads_7 : decode mR_reads.2.1 7 = .ok (.putfield 9, 3) := by decide +kernel
theorem dR_reads_10 : decode mR_reads.2.1 10 = .ok (.aload_n 0, 1) := by decide +kernel
theorem dR_reads_11 : decode mR_reads.2.1 11 = .ok (.iconst 0, 1) := by decide +kernel
theorem dR_reads_12 : decode mR_reads.2.1 12 = .ok (.putfield 22, 3) := by decide +kernel
theorem dR_reads_15 : decode mR_reads.2.1 15 = .ok (.aload_n 0, 1) := by decide +kernel
theorem dR_reads_16 : decode mR_reads.2.1 16 = .ok (.iconst 0, 1) := by decide +kernel
theorem dR_reads_17 : decode mR_reads.2.1 17 = .ok (.putfield 25, 3) := by decide +kernel
theorem dR_reads_20 : decode mR_reads.2.1 20 = .ok (.aload_n 0, 1) := by decide +kernel
theorem dR_reads_21 : decode mR_reads.2.1 21 = .ok (.bipush 10, 2) := by decide +kernel
theorem dR_reads_23 : decode mR_reads.2.1 23 = .ok (.putfield 28, 3) := by decide +kernel
theorem dR_reads_26 : decode mR_reads.2.1 26 = .ok (.iconst 0, 1) := by decide +kernel
theorem dR_reads_27 : decode mR_reads.2.1 27 = .ok (.istore_n 3, 1) := by decide +kernel
theorem dR_reads_28 : decode mR_reads.2.1 28 = .ok (.iload_n 3, 1) := by decide +kernel
theorem dR_reads_29 : decode mR_reads.2.1 29 = .ok (.bipush 10, 2) := by decide +kernel
theorem dR_reads_31 : decode mR_reads.2.1 31 = .ok (.if_icmp .ge 44, 3) := by decide +kernel
theorem dR_reads_34 : decode mR_reads.2.1 34 = .ok (.iload_n 3, 1) := by decide +kernel
theorem dR_reads_35 : decode mR_reads.2.1 35 = .ok (.ifCond .le 12, 3) := by decide +kernel
theorem dR_reads_38 : decode mR_reads.2.1 38 = .ok (.aload_n 0, 1) := by decide +kernel
theorem dR_reads_39 : decode mR_reads.2.1 39 = .ok (.bipush 59, 2) := by decide +kernel
theorem dR_reads_41 : decode mR_reads.2.1 41 = .ok (.invokevirtual 31, 3) := by decide +kernel
theorem dR_reads_44 : decode mR_reads.2.1 44 = .ok (.ifCond .eq 10, 3) := by decide +kernel
theorem dR_reads_47 : decode mR_reads.2.1 47 = .ok (.aload_n 0, 1) := by decide +kernel
theorem dR_reads_48 : decode mR_reads.2.1 48 = .ok (.invokevirtual 35, 3) := by decide +kernel
theorem dR_reads_51 : decode mR_reads.2.1 51 = .ok (.ifCond .ne 5, 3) := by decide +kernel
theorem dR_reads_54 : decode mR_reads.2.1 54 = .ok (.iconst 0, 1) := by decide +kernel
theorem dR_reads_55 : decode mR_reads.2.1 55 = .ok (.ireturn, 1) := by decide +kernel
theorem dR_reads_56 : decode mR_reads.2.1 56 = .ok (.aload_n 0, 1) := by decide +kernel
theorem dR_reads_57 : decode mR_reads.2.1 57 = .ok (.getfield 22, 3) := by decide +kernel
theorem dR_reads_60 : decode mR_reads.2.1 60 = .ok (.aload_n 0, 1) := by decide +kernel
theorem dR_reads_61 : decode mR_reads.2.1 61 = .ok (.getfield 18, 3) := by decide +kernel
theorem dR_reads_64 : decode mR_reads.2.1 64 = .ok (.if_icmp .lt 5, 3) := by decide +kernel
theorem dR_reads_67 : decode mR_reads.2.1 67 = .ok (.iconst 1, 1) := by decide +kernel
theorem dR_reads_68 : decode mR_reads.2.1 68 = .ok (.ireturn, 1) := by decide +kernel
theorem dR_reads_69 : decode mR_reads.2.1 69 = .ok (.iinc 3 1, 3) := by decide +kernel
theorem dR_reads_72 : decode mR_reads.2.1 72 = .ok (.goto (-44), 3) := by decide +kernel
theorem dR_reads_75 : decode mR_reads.2.1 75 = .ok (.iconst 0, 1) := by decide +kernel
theorem dR_reads_76 : decode mR_reads.2.1 76 = .ok (.ireturn, 1) := by decide +kernel
theorem dR_clause_0 : decode mR_clause.2.1 0 = .ok (.aload_n 0, 1) := by decide +kernel
theorem dR_clause_1 : decode mR_clause.2.1 1 = .ok (.invokevirtual 39, 3) := by decide +kernel
theorem dR_clause_4 : decode mR_clause.2.1 4 = .ok (.istore_n 1, 1) := by decide +kernel
theorem dR_clause_5 : decode mR_clause.2.1 5 = .ok (.iload_n 1, 1) := by decide +kernel
theorem dR_clause_6 : decode mR_clause.2.1 6 = .ok (.bipush 109, 2) := by decide +kernel
theorem dR_clause_8 : decode mR_clause.2.1 8 = .ok (.if_icmp .eq 31, 3) := by decide +kernel
theorem dR_clause_11 : decode mR_clause.2.1 11 = .ok (.iload_n 1, 1) := by decide +kernel
theorem dR_clause_12 : decode mR_clause.2.1 12 = .ok (.bipush 116, 2) := by decide +kernel
theorem dR_clause_14 : decode mR_clause.2.1 14 = .ok (.if_icmp .eq 25, 3) := by decide +kernel
theorem dR_clause_17 : decode mR_clause.2.1 17 = .ok (.aload_n 0, 1) := by decide +kernel
theorem dR_clause_18 : decode mR_clause.2.1 18 = .ok (.ldc 43, 2) := by decide +kernel
theorem dR_clause_20 : decode mR_clause.2.1 20 = .ok (.invokevirtual 45, 3) := by decide +kernel
theorem dR_clause_23 : decode mR_clause.2.1 23 = .ok (.ifCond .eq 14, 3) := by decide +kernel
theorem dR_clause_26 : decode mR_clause.2.1 26 = .ok (.aload_n 0, 1) := by decide +kernel
theorem dR_clause_27 : decode mR_clause.2.1 27 = .ok (.invokevirtual 49, 3) := by decide +kernel
theorem dR_clause_30 : decode mR_clause.2.1 30 = .ok (.ifCond .eq 7, 3) := by decide +kernel
theorem dR_clause_33 : decode mR_clause.2.1 33 = .ok (.iconst 1, 1) := by decide +kernel
theorem dR_clause_34 : decode mR_clause.2.1 34 = .ok (.goto 4, 3) := by decide +kernel
theorem dR_clause_37 : decode mR_clause.2.1 37 = .ok (.iconst 0, 1) := by decide +kernel
theorem dR_clause_38 : decode mR_clause.2.1 38 = .ok (.ireturn, 1) := by decide +kernel
theorem dR_clause_39 : decode mR_clause.2.1 39 = .ok (.iload_n 1, 1) := by decide +kernel
theorem dR_clause_40 : decode mR_clause.2.1 40 = .ok (.bipush 109, 2) := by decide +kernel
theorem dR_clause_42 : decode mR_clause.2.1 42 = .ok (.if_icmp .ne 9, 3) := by decide +kernel
theorem dR_clause_45 : decode mR_clause.2.1 45 = .ok (.sipush 10000, 3) := by decide +kernel
theorem dR_clause_48 : decode mR_clause.2.1 48 = .ok (.goto 6, 3) := by decide +kernel
theorem dR_clause_51 : decode mR_clause.2.1 51 = .ok (.sipush 20000, 3) := by decide +kernel
theorem dR_clause_54 : decode mR_clause.2.1 54 = .ok (.istore_n 2, 1) := by decide +kernel
theorem dR_clause_55 : decode mR_clause.2.1 55 = .ok (.aload_n 0, 1) := by decide +kernel
theorem dR_clause_56 : decode mR_clause.2.1 56 = .ok (.iload_n 1, 1) := by decide +kernel
theorem dR_clause_57 : decode mR_clause.2.1 57 = .ok (.bipush 109, 2) := by decide +kernel
theorem dR_clause_59 : decode mR_clause.2.1 59 = .ok (.if_icmp .ne 8, 3) := by decide +kernel
theorem dR_clause_62 : decode mR_clause.2.1 62 = .ok (.ldc 54, 2) := by decide +kernel
theorem dR_clause_64 : decode mR_clause.2.1 64 = .ok (.goto 5, 3) := by decide +kernel
theorem dR_clause_67 : decode mR_clause.2.1 67 = .ok (.ldc 56, 2) := by decide +kernel
theorem dR_clause_69 : decode mR_clause.2.1 69 = .ok (.invokevirtual 45, 3) := by decide +kernel
theorem dR_clause_72 : decode mR_clause.2.1 72 = .ok (.ifCond .eq 10, 3) := by decide +kernel
theorem dR_clause_75 : decode mR_clause.2.1 75 = .ok (.aload_n 0, 1) := by decide +kernel
theorem dR_clause_76 : decode mR_clause.2.1 76 = .ok (.invokevirtual 58, 3) := by decide +kernel
theorem dR_clause_79 : decode mR_clause.2.1 79 = .ok (.ifCond .ne 5, 3) := by decide +kernel
theorem dR_clause_82 : decode mR_clause.2.1 82 = .ok (.iconst 0, 1) := by decide +kernel
theorem dR_clause_83 : decode mR_clause.2.1 83 = .ok (.ireturn, 1) := by decide +kernel
theorem dR_clause_84 : decode mR_clause.2.1 84 = .ok (.iload_n 2, 1) := by decide +kernel
theorem dR_clause_85 : decode mR_clause.2.1 85 = .ok (.aload_n 0, 1) := by decide +kernel
theorem dR_clause_86 : decode mR_clause.2.1 86 = .ok (.getfield 61, 3) := by decide +kernel
theorem dR_clause_89 : decode mR_clause.2.1 89 = .ok (.iadd, 1) := by decide +kernel
theorem dR_clause_90 : decode mR_clause.2.1 90 = .ok (.istore_n 3, 1) := by decide +kernel
theorem dR_clause_91 : decode mR_clause.2.1 91 = .ok (.aload_n 0, 1) := by decide +kernel
theorem dR_clause_92 : decode mR_clause.2.1 92 = .ok (.bipush 32, 2) := by decide +kernel
theorem dR_clause_94 : decode mR_clause.2.1 94 = .ok (.invokevirtual 31, 3) := by decide +kernel
theorem dR_clause_97 : decode mR_clause.2.1 97 = .ok (.ifCond .eq 23, 3) := by decide +kernel
theorem dR_clause_100 : decode mR_clause.2.1 100 = .ok (.aload_n 0, 1) := by decide +kernel
theorem dR_clause_101 : decode mR_clause.2.1 101 = .ok (.iconst 0, 1) := by decide +kernel
theorem dR_clause_102 : decode mR_clause.2.1 102 = .ok (.invokevirtual 64, 3) := by decide +kernel
theorem dR_clause_105 : decode mR_clause.2.1 105 = .ok (.ifCond .eq 15, 3) := by decide +kernel
theorem dR_clause_108 : decode mR_clause.2.1 108 = .ok (.aload_n 0, 1) := by decide +kernel
theorem dR_clause_109 : decode mR_clause.2.1 109 = .ok (.iload_n 3, 1) := by decide +kernel
theorem dR_clause_110 : decode mR_clause.2.1 110 = .ok (.invokevirtual 68, 3) := by decide +kernel
theorem dR_clause_113 : decode mR_clause.2.1 113 = .ok (.ifCond .eq 7, 3) := by decide +kernel
theorem dR_clause_116 : decode mR_clause.2.1 116 = .ok (.iconst 1, 1) := by decide +kernel
theorem dR_clause_117 : decode mR_clause.2.1 117 = .ok (.goto 4, 3) := by decide +kernel
theorem dR_clause_120 : decode mR_clause.2.1 120 = .ok (.iconst 0, 1) := by decide +kernel
theorem dR_clause_121 : decode mR_clause.2.1 121 = .ok (.ireturn, 1) := by decide +kernel
theorem dR_takesBase_0 : decode mR_takesBase.2.1 0 = .ok (.aload_n 0, 1) := by decide +kernel
theorem dR_takesBase_1 : decode mR_takesBase.2.1 1 = .ok (.invokevirtual 58, 3) := by decide +kernel
theorem dR_takesBase_4 : decode mR_takesBase.2.1 4 = .ok (.ifCond .ne 5, 3) := by decide +kernel
theorem dR_takesBase_7 : decode mR_takesBase.2.1 7 = .ok (.iconst 0, 1) := by decide +kernel
theorem dR_takesBase_8 : decode mR_takesBase.2.1 8 = .ok (.ireturn, 1) := by decide +kernel
theorem dR_takesBase_9 : decode mR_takesBase.2.1 9 = .ok (.aload_n 0, 1) := by decide +kernel
theorem dR_takesBase_10 : decode mR_takesBase.2.1 10 = .ok (.aload_n 0, 1) := by decide +kernel
theorem dR_takesBase_11 : decode mR_takesBase.2.1 11 = .ok (.getfield 61, 3) := by decide +kernel
theorem dR_takesBase_14 : decode mR_takesBase.2.1 14 = .ok (.putfield 28, 3) := by decide +kernel
theorem dR_takesBase_17 : decode mR_takesBase.2.1 17 = .ok (.iconst 1, 1) := by decide +kernel
theorem dR_takesBase_18 : decode mR_takesBase.2.1 18 = .ok (.ireturn, 1) := by decide +kernel
theorem dR_any_0 : decode mR_any.2.1 0 = .ok (.iconst 0, 1) := by decide +kernel
theorem dR_any_1 : decode mR_any.2.1 1 = .ok (.istore_n 2, 1) := by decide +kernel
theorem dR_any_2 : decode mR_any.2.1 2 = .ok (.iload_n 2, 1) := by decide +kernel
theorem dR_any_3 : decode mR_any.2.1 3 = .ok (.bipush 100, 2) := by decide +kernel
theorem dR_any_5 : decode mR_any.2.1 5 = .ok (.if_icmp .ge 87, 3) := by decide +kernel
theorem dR_any_8 : decode mR_any.2.1 8 = .ok (.aload_n 0, 1) := by decide +kernel
theorem dR_any_9 : decode mR_any.2.1 9 = .ok (.iload_n 1, 1) := by decide +kernel
theorem dR_any_10 : decode mR_any.2.1 10 = .ok (.invokevirtual 71, 3) := by decide +kernel
theorem dR_any_13 : decode mR_any.2.1 13 = .ok (.ifCond .ne 5, 3) := by decide +kernel
theorem dR_any_16 : decode mR_any.2.1 16 = .ok (.iconst 0, 1) := by decide +kernel
theorem dR_any_17 : decode mR_any.2.1 17 = .ok (.ireturn, 1) := by decide +kernel
theorem dR_any_18 : decode mR_any.2.1 18 = .ok (.iconst 0, 1) := by decide +kernel
theorem dR_any_19 : decode mR_any.2.1 19 = .ok (.istore_n 3, 1) := by decide +kernel
theorem dR_any_20 : decode mR_any.2.1 20 = .ok (.iload_n 3, 1) := by decide +kernel
theorem dR_any_21 : decode mR_any.2.1 21 = .ok (.bipush 100, 2) := by decide +kernel
theorem dR_any_23 : decode mR_any.2.1 23 = .ok (.if_icmp .ge 37, 3) := by decide +kernel
theorem dR_any_26 : decode mR_any.2.1 26 = .ok (.aload_n 0, 1) := by decide +kernel
theorem dR_any_27 : decode mR_any.2.1 27 = .ok (.bipush 38, 2) := by decide +kernel
theorem dR_any_29 : decode mR_any.2.1 29 = .ok (.invokevirtual 31, 3) := by decide +kernel
theorem dR_any_32 : decode mR_any.2.1 32 = .ok (.ifCond .eq 28, 3) := by decide +kernel
theorem dR_any_35 : decode mR_any.2.1 35 = .ok (.aload_n 0, 1) := by decide +kernel
theorem dR_any_36 : decode mR_any.2.1 36 = .ok (.iload_n 1, 1) := by decide +kernel
theorem dR_any_37 : decode mR_any.2.1 37 = .ok (.invokevirtual 71, 3) := by decide +kernel
theorem dR_any_40 : decode mR_any.2.1 40 = .ok (.ifCond .eq 12, 3) := by decide +kernel
theorem dR_any_43 : decode mR_any.2.1 43 = .ok (.aload_n 0, 1) := by decide +kernel
theorem dR_any_44 : decode mR_any.2.1 44 = .ok (.bipush (-2), 2) := by decide +kernel
theorem dR_any_46 : decode mR_any.2.1 46 = .ok (.invokevirtual 68, 3) := by decide +kernel
theorem dR_any_49 : decode mR_any.2.1 49 = .ok (.ifCond .ne 5, 3) := by decide +kernel
theorem dR_any_52 : decode mR_any.2.1 52 = .ok (.iconst 0, 1) := by decide +kernel
theorem dR_any_53 : decode mR_any.2.1 53 = .ok (.ireturn, 1) := by decide +kernel
theorem dR_any_54 : decode mR_any.2.1 54 = .ok (.iinc 3 1, 3) := by decide +kernel
theorem dR_any_57 : decode mR_any.2.1 57 = .ok (.goto (-37), 3) := by decide +kernel
theorem dR_any_60 : decode mR_any.2.1 60 = .ok (.iload_n 2, 1) := by decide +kernel
theorem dR_any_61 : decode mR_any.2.1 61 = .ok (.ifCond .le 14, 3) := by decide +kernel
theorem dR_any_64 : decode mR_any.2.1 64 = .ok (.aload_n 0, 1) := by decide +kernel
theorem dR_any_65 : decode mR_any.2.1 65 = .ok (.bipush (-3), 2) := by decide +kernel
theorem dR_any_67 : decode mR_any.2.1 67 = .ok (.invokevirtual 68, 3) := by decide +kernel
theorem dR_any_70 : decode mR_any.2.1 70 = .ok (.ifCond .ne 5, 3) := by decide +kernel
theorem dR_any_73 : decode mR_any.2.1 73 = .ok (.iconst 0, 1) := by decide +kernel
theorem dR_any_74 : decode mR_any.2.1 74 = .ok (.ireturn, 1) := by decide +kernel
theorem dR_any_75 : decode mR_any.2.1 75 = .ok (.aload_n 0, 1) := by decide +kernel
theorem dR_any_76 : decode mR_any.2.1 76 = .ok (.bipush 124, 2) := by decide +kernel
theorem dR_any_78 : decode mR_any.2.1 78 = .ok (.invokevirtual 31, 3) := by decide +kernel
theorem dR_any_81 : decode mR_any.2.1 81 = .ok (.ifCond .ne 5, 3) := by decide +kernel
theorem dR_any_84 : decode mR_any.2.1 84 = .ok (.iconst 1, 1) := by decide +kernel
theorem dR_any_85 : decode mR_any.2.1 85 = .ok (.ireturn, 1) := by decide +kernel
theorem dR_any_86 : decode mR_any.2.1 86 = .ok (.iinc 2 1, 3) := by decide +kernel
theorem dR_any_89 : decode mR_any.2.1 89 = .ok (.goto (-87), 3) := by decide +kernel
theorem dR_any_92 : decode mR_any.2.1 92 = .ok (.iconst 0, 1) := by decide +kernel
theorem dR_any_93 : decode mR_any.2.1 93 = .ok (.ireturn, 1) := by decide +kernel
theorem dR_one_0 : decode mR_one.2.1 0 = .ok (.iload_n 1, 1) := by decide +kernel
theorem dR_one_1 : decode mR_one.2.1 1 = .ok (.istore_n 2, 1) := by decide +kernel
theorem dR_one_2 : decode mR_one.2.1 2 = .ok (.iconst 0, 1) := by decide +kernel
theorem dR_one_3 : decode mR_one.2.1 3 = .ok (.istore_n 3, 1) := by decide +kernel
theorem dR_one_4 : decode mR_one.2.1 4 = .ok (.iload_n 3, 1) := by decide +kernel
theorem dR_one_5 : decode mR_one.2.1 5 = .ok (.iconst 4, 1) := by decide +kernel
theorem dR_one_6 : decode mR_one.2.1 6 = .ok (.if_icmp .ge 26, 3) := by decide +kernel
theorem dR_one_9 : decode mR_one.2.1 9 = .ok (.iload_n 2, 1) := by decide +kernel
theorem dR_one_10 : decode mR_one.2.1 10 = .ok (.iconst 4, 1) := by decide +kernel
theorem dR_one_11 : decode mR_one.2.1 11 = .ok (.if_icmp .ge 21, 3) := by decide +kernel
theorem dR_one_14 : decode mR_one.2.1 14 = .ok (.aload_n 0, 1) := by decide +kernel
theorem dR_one_15 : decode mR_one.2.1 15 = .ok (.bipush 33, 2) := by decide +kernel
theorem dR_one_17 : decode mR_one.2.1 17 = .ok (.invokevirtual 31, 3) := by decide +kernel
theorem dR_one_20 : decode mR_one.2.1 20 = .ok (.ifCond .eq 12, 3) := by decide +kernel
theorem dR_one_23 : decode mR_one.2.1 23 = .ok (.iinc 2 1, 3) := by decide +kernel
theorem dR_one_26 : decode mR_one.2.1 26 = .ok (.iinc 3 1, 3) := by decide +kernel
theorem dR_one_29 : decode mR_one.2.1 29 = .ok (.goto (-25), 3) := by decide +kernel
theorem dR_one_32 : decode mR_one.2.1 32 = .ok (.iload_n 2, 1) := by decide +kernel
theorem dR_one_33 : decode mR_one.2.1 33 = .ok (.iconst 4, 1) := by decide +kernel
theorem dR_one_34 : decode mR_one.2.1 34 = .ok (.if_icmp .ge 40, 3) := by decide +kernel
theorem dR_one_37 : decode mR_one.2.1 37 = .ok (.aload_n 0, 1) := by decide +kernel
theorem dR_one_38 : decode mR_one.2.1 38 = .ok (.bipush 40, 2) := by decide +kernel
theorem dR_one_40 : decode mR_one.2.1 40 = .ok (.invokevirtual 31, 3) := by decide +kernel
theorem dR_one_43 : decode mR_one.2.1 43 = .ok (.ifCond .eq 31, 3) := by decide +kernel
theorem dR_one_46 : decode mR_one.2.1 46 = .ok (.aload_n 0, 1) := by decide +kernel
theorem dR_one_47 : decode mR_one.2.1 47 = .ok (.iload_n 2, 1) := by decide +kernel
theorem dR_one_48 : decode mR_one.2.1 48 = .ok (.iconst 1, 1) := by decide +kernel
theorem dR_one_49 : decode mR_one.2.1 49 = .ok (.iadd, 1) := by decide +kernel
theorem dR_one_50 : decode mR_one.2.1 50 = .ok (.invokevirtual 64, 3) := by decide +kernel
theorem dR_one_53 : decode mR_one.2.1 53 = .ok (.ifCond .eq 16, 3) := by decide +kernel
theorem dR_one_56 : decode mR_one.2.1 56 = .ok (.aload_n 0, 1) := by decide +kernel
theorem dR_one_57 : decode mR_one.2.1 57 = .ok (.bipush 41, 2) := by decide +kernel
theorem dR_one_59 : decode mR_one.2.1 59 = .ok (.invokevirtual 31, 3) := by decide +kernel
theorem dR_one_62 : decode mR_one.2.1 62 = .ok (.ifCond .eq 7, 3) := by decide +kernel
theorem dR_one_65 : decode mR_one.2.1 65 = .ok (.iconst 1, 1) := by decide +kernel
theorem dR_one_66 : decode mR_one.2.1 66 = .ok (.goto 4, 3) := by decide +kernel
theorem dR_one_69 : decode mR_one.2.1 69 = .ok (.iconst 0, 1) := by decide +kernel
theorem dR_one_70 : decode mR_one.2.1 70 = .ok (.istore_n 3, 1) := by decide +kernel
theorem dR_one_71 : decode mR_one.2.1 71 = .ok (.goto 8, 3) := by decide +kernel
theorem dR_one_74 : decode mR_one.2.1 74 = .ok (.aload_n 0, 1) := by decide +kernel
theorem dR_one_75 : decode mR_one.2.1 75 = .ok (.invokevirtual 74, 3) := by decide +kernel
theorem dR_one_78 : decode mR_one.2.1 78 = .ok (.istore_n 3, 1) := by decide +kernel
theorem dR_one_79 : decode mR_one.2.1 79 = .ok (.iload_n 2, 1) := by decide +kernel
theorem dR_one_80 : decode mR_one.2.1 80 = .ok (.iload_n 1, 1) := by decide +kernel
theorem dR_one_81 : decode mR_one.2.1 81 = .ok (.isub, 1) := by decide +kernel
theorem dR_one_82 : decode mR_one.2.1 82 = .ok (.iconst 2, 1) := by decide +kernel
theorem dR_one_83 : decode mR_one.2.1 83 = .ok (.irem, 1) := by decide +kernel
theorem dR_one_84 : decode mR_one.2.1 84 = .ok (.ifCond .eq 7, 3) := by decide +kernel
theorem dR_one_87 : decode mR_one.2.1 87 = .ok (.iconst 1, 1) := by decide +kernel
theorem dR_one_88 : decode mR_one.2.1 88 = .ok (.goto 4, 3) := by decide +kernel
theorem dR_one_91 : decode mR_one.2.1 91 = .ok (.iconst 0, 1) := by decide +kernel
theorem dR_one_92 : decode mR_one.2.1 92 = .ok (.istore 4, 2) := by decide +kernel
theorem dR_one_94 : decode mR_one.2.1 94 = .ok (.iload_n 3, 1) := by decide +kernel
theorem dR_one_95 : decode mR_one.2.1 95 = .ok (.ifCond .eq 20, 3) := by decide +kernel
theorem dR_one_98 : decode mR_one.2.1 98 = .ok (.iload 4, 2) := by decide +kernel
theorem dR_one_100 : decode mR_one.2.1 100 = .ok (.ifCond .eq 11, 3) := by decide +kernel
theorem dR_one_103 : decode mR_one.2.1 103 = .ok (.aload_n 0, 1) := by decide +kernel
theorem dR_one_104 : decode mR_one.2.1 104 = .ok (.iconst (-1), 1) := by decide +kernel
theorem dR_one_105 : decode mR_one.2.1 105 = .ok (.invokevirtual 68, 3) := by decide +kernel
theorem dR_one_108 : decode mR_one.2.1 108 = .ok (.ifCond .eq 7, 3) := by decide +kernel
theorem dR_one_111 : decode mR_one.2.1 111 = .ok (.iconst 1, 1) := by decide +kernel
theorem dR_one_112 : decode mR_one.2.1 112 = .ok (.goto 4, 3) := by decide +kernel
theorem dR_one_115 : decode mR_one.2.1 115 = .ok (.iconst 0, 1) := by decide +kernel
theorem dR_one_116 : decode mR_one.2.1 116 = .ok (.ireturn, 1) := by decide +kernel
theorem dR_test_0 : decode mR_test.2.1 0 = .ok (.ldc 77, 2) := by decide +kernel
theorem dR_test_2 : decode mR_test.2.1 2 = .ok (.aload_n 0, 1) := by decide +kernel
theorem dR_test_3 : decode mR_test.2.1 3 = .ok (.invokevirtual 39, 3) := by decide +kernel
theorem dR_test_6 : decode mR_test.2.1 6 = .ok (.invokevirtual 79, 3) := by decide +kernel
theorem dR_test_9 : decode mR_test.2.1 9 = .ok (.istore_n 1, 1) := by decide +kernel
theorem dR_test_10 : decode mR_test.2.1 10 = .ok (.iload_n 1, 1) := by decide +kernel
theorem dR_test_11 : decode mR_test.2.1 11 = .ok (.ifCond .ge 5, 3) := by decide +kernel
theorem dR_test_14 : decode mR_test.2.1 14 = .ok (.iconst 0, 1) := by decide +kernel
theorem dR_test_15 : decode mR_test.2.1 15 = .ok (.ireturn, 1) := by decide +kernel
theorem dR_test_16 : decode mR_test.2.1 16 = .ok (.aload_n 0, 1) := by decide +kernel
theorem dR_test_17 : decode mR_test.2.1 17 = .ok (.dup, 1) := by decide +kernel
theorem dR_test_18 : decode mR_test.2.1 18 = .ok (.getfield 22, 3) := by decide +kernel
theorem dR_test_21 : decode mR_test.2.1 21 = .ok (.iconst 1, 1) := by decide +kernel
theorem dR_test_22 : decode mR_test.2.1 22 = .ok (.iadd, 1) := by decide +kernel
theorem dR_test_23 : decode mR_test.2.1 23 = .ok (.putfield 22, 3) := by decide +kernel
theorem dR_test_26 : decode mR_test.2.1 26 = .ok (.ldc 85, 2) := by decide +kernel
theorem dR_test_28 : decode mR_test.2.1 28 = .ok (.aload_n 0, 1) := by decide +kernel
theorem dR_test_29 : decode mR_test.2.1 29 = .ok (.invokevirtual 39, 3) := by decide +kernel
theorem dR_test_32 : decode mR_test.2.1 32 = .ok (.invokevirtual 79, 3) := by decide +kernel
theorem dR_test_35 : decode mR_test.2.1 35 = .ok (.istore_n 2, 1) := by decide +kernel
theorem dR_test_36 : decode mR_test.2.1 36 = .ok (.iload_n 2, 1) := by decide +kernel
theorem dR_test_37 : decode mR_test.2.1 37 = .ok (.ifCond .ge 5, 3) := by decide +kernel
theorem dR_test_40 : decode mR_test.2.1 40 = .ok (.iconst 0, 1) := by decide +kernel
theorem dR_test_41 : decode mR_test.2.1 41 = .ok (.ireturn, 1) := by decide +kernel
theorem dR_test_42 : decode mR_test.2.1 42 = .ok (.aload_n 0, 1) := by decide +kernel
theorem dR_test_43 : decode mR_test.2.1 43 = .ok (.dup, 1) := by decide +kernel
theorem dR_test_44 : decode mR_test.2.1 44 = .ok (.getfield 22, 3) := by decide +kernel
theorem dR_test_47 : decode mR_test.2.1 47 = .ok (.iconst 1, 1) := by decide +kernel
theorem dR_test_48 : decode mR_test.2.1 48 = .ok (.iadd, 1) := by decide +kernel
theorem dR_test_49 : decode mR_test.2.1 49 = .ok (.putfield 22, 3) := by decide +kernel
theorem dR_test_52 : decode mR_test.2.1 52 = .ok (.aload_n 0, 1) := by decide +kernel
theorem dR_test_53 : decode mR_test.2.1 53 = .ok (.invokevirtual 58, 3) := by decide +kernel
theorem dR_test_56 : decode mR_test.2.1 56 = .ok (.ifCond .eq 23, 3) := by decide +kernel
theorem dR_test_59 : decode mR_test.2.1 59 = .ok (.aload_n 0, 1) := by decide +kernel
theorem dR_test_60 : decode mR_test.2.1 60 = .ok (.iload_n 1, 1) := by decide +kernel
theorem dR_test_61 : decode mR_test.2.1 61 = .ok (.iload_n 2, 1) := by decide +kernel
theorem dR_test_62 : decode mR_test.2.1 62 = .ok (.aload_n 0, 1) := by decide +kernel
theorem dR_test_63 : decode mR_test.2.1 63 = .ok (.getfield 61, 3) := by decide +kernel
theorem dR_test_66 : decode mR_test.2.1 66 = .ok (.invokestatic 87, 3) := by decide +kernel
theorem dR_test_69 : decode mR_test.2.1 69 = .ok (.invokevirtual 68, 3) := by decide +kernel
theorem dR_test_72 : decode mR_test.2.1 72 = .ok (.ifCond .eq 7, 3) := by decide +kernel
theorem dR_test_75 : decode mR_test.2.1 75 = .ok (.iconst 1, 1) := by decide +kernel
theorem dR_test_76 : decode mR_test.2.1 76 = .ok (.goto 4, 3) := by decide +kernel
theorem dR_test_79 : decode mR_test.2.1 79 = .ok (.iconst 0, 1) := by decide +kernel
theorem dR_test_80 : decode mR_test.2.1 80 = .ok (.ireturn, 1) := by decide +kernel
theorem dR_takesNumber_0 : decode mR_takesNumber.2.1 0 = .ok (.aload_n 0, 1) := by decide +kernel
theorem dR_takesNumber_1 : decode mR_takesNumber.2.1 1 = .ok (.getfield 22, 3) := by decide +kernel
theorem dR_takesNumber_4 : decode mR_takesNumber.2.1 4 = .ok (.istore_n 1, 1) := by decide +kernel
theorem dR_takesNumber_5 : decode mR_takesNumber.2.1 5 = .ok (.aload_n 0, 1) := by decide +kernel
theorem dR_takesNumber_6 : decode mR_takesNumber.2.1 6 = .ok (.iconst 0, 1) := by decide +kernel
theorem dR_takesNumber_7 : decode mR_takesNumber.2.1 7 = .ok (.putfield 61, 3) := by decide +kernel
theorem dR_takesNumber_10 : decode mR_takesNumber.2.1 10 = .ok (.iconst 0, 1) := by decide +kernel
theorem dR_takesNumber_11 : decode mR_takesNumber.2.1 11 = .ok (.istore_n 2, 1) := by decide +kernel
theorem dR_takesNumber_12 : decode mR_takesNumber.2.1 12 = .ok (.iload_n 2, 1) := by decide +kernel
theorem dR_takesNumber_13 : decode mR_takesNumber.2.1 13 = .ok (.iconst 2, 1) := by decide +kernel
theorem dR_takesNumber_14 : decode mR_takesNumber.2.1 14 = .ok (.if_icmp .ge 81, 3) := by decide +kernel
theorem dR_takesNumber_17 : decode mR_takesNumber.2.1 17 = .ok (.aload_n 0, 1) := by decide +kernel
theorem dR_takesNumber_18 : decode mR_takesNumber.2.1 18 = .ok (.getfield 22, 3) := by decide +kernel
theorem dR_takesNumber_21 : decode mR_takesNumber.2.1 21 = .ok (.aload_n 0, 1) := by decide +kernel
theorem dR_takesNumber_22 : decode mR_takesNumber.2.1 22 = .ok (.getfield 18, 3) := by decide +kernel
theorem dR_takesNumber_25 : decode mR_takesNumber.2.1 25 = .ok (.if_icmp .ge 70, 3) := by decide +kernel
theorem dR_takesNumber_28 : decode mR_takesNumber.2.1 28 = .ok (.aload_n 0, 1) := by decide +kernel
theorem dR_takesNumber_29 : decode mR_takesNumber.2.1 29 = .ok (.getfield 22, 3) := by decide +kernel
theorem dR_takesNumber_32 : decode mR_takesNumber.2.1 32 = .ok (.aload_n 0, 1) := by decide +kernel
theorem dR_takesNumber_33 : decode mR_takesNumber.2.1 33 = .ok (.getfield 15, 3) := by decide +kernel
theorem dR_takesNumber_36 : decode mR_takesNumber.2.1 36 = .ok (.arraylength, 1) := by decide +kernel
theorem dR_takesNumber_37 : decode mR_takesNumber.2.1 37 = .ok (.if_icmp .ge 58, 3) := by decide +kernel
theorem dR_takesNumber_40 : decode mR_takesNumber.2.1 40 = .ok (.aload_n 0, 1) := by decide +kernel
theorem dR_takesNumber_41 : decode mR_takesNumber.2.1 41 = .ok (.getfield 15, 3) := by decide +kernel
theorem dR_takesNumber_44 : decode mR_takesNumber.2.1 44 = .ok (.aload_n 0, 1) := by decide +kernel
theorem dR_takesNumber_45 : decode mR_takesNumber.2.1 45 = .ok (.getfield 22, 3) := by decide +kernel
theorem dR_takesNumber_48 : decode mR_takesNumber.2.1 48 = .ok (.iaload, 1) := by decide +kernel
theorem dR_takesNumber_49 : decode mR_takesNumber.2.1 49 = .ok (.bipush 48, 2) := by decide +kernel
theorem dR_takesNumber_51 : decode mR_takesNumber.2.1 51 = .ok (.isub, 1) := by decide +kernel
theorem dR_takesNumber_52 : decode mR_takesNumber.2.1 52 = .ok (.istore_n 3, 1) := by decide +kernel
theorem dR_takesNumber_53 : decode mR_takesNumber.2.1 53 = .ok (.iload_n 3, 1) := by decide +kernel
theorem dR_takesNumber_54 : decode mR_takesNumber.2.1 54 = .ok (.ifCond .lt 41, 3) := by decide +kernel
theorem dR_takesNumber_57 : decode mR_takesNumber.2.1 57 = .ok (.iload_n 3, 1) := by decide +kernel
theorem dR_takesNumber_58 : decode mR_takesNumber.2.1 58 = .ok (.bipush 9, 2) := by decide +kernel
theorem dR_takesNumber_60 : decode mR_takesNumber.2.1 60 = .ok (.if_icmp .le 6, 3) := by decide +kernel
theorem dR_takesNumber_63 : decode mR_takesNumber.2.1 63 = .ok (.goto 32, 3) := by decide +kernel
theorem dR_takesNumber_66 : decode mR_takesNumber.2.1 66 = .ok (.aload_n 0, 1) := by decide +kernel
theorem dR_takesNumber_67 : decode mR_takesNumber.2.1 67 = .ok (.aload_n 0, 1) := by decide +kernel
theorem dR_takesNumber_68 : decode mR_takesNumber.2.1 68 = .ok (.getfield 61, 3) := by decide +kernel
theorem dR_takesNumber_71 : decode mR_takesNumber.2.1 71 = .ok (.bipush 10, 2) := by decide +kernel
theorem dR_takesNumber_73 : decode mR_takesNumber.2.1 73 = .ok (.imul, 1) := by decide +kernel
theorem dR_takesNumber_74 : decode mR_takesNumber.2.1 74 = .ok (.iload_n 3, 1) := by decide +kernel
theorem dR_takesNumber_75 : decode mR_takesNumber.2.1 75 = .ok (.iadd, 1) := by decide +kernel
theorem dR_takesNumber_76 : decode mR_takesNumber.2.1 76 = .ok (.putfield 61, 3) := by decide +kernel
theorem dR_takesNumber_79 : decode mR_takesNumber.2.1 79 = .ok (.aload_n 0, 1) := by decide +kernel
theorem dR_takesNumber_80 : decode mR_takesNumber.2.1 80 = .ok (.dup, 1) := by decide +kernel
theorem dR_takesNumber_81 : decode mR_takesNumber.2.1 81 = .ok (.getfield 22, 3) := by decide +kernel
theorem dR_takesNumber_84 : decode mR_takesNumber.2.1 84 = .ok (.iconst 1, 1) := by decide +kernel
theorem dR_takesNumber_85 : decode mR_takesNumber.2.1 85 = .ok (.iadd, 1) := by decide +kernel
theorem dR_takesNumber_86 : decode mR_takesNumber.2.1 86 = .ok (.putfield 22, 3) := by decide +kernel
theorem dR_takesNumber_89 : decode mR_takesNumber.2.1 89 = .ok (.iinc 2 1, 3) := by decide +kernel
theorem dR_takesNumber_92 : decode mR_takesNumber.2.1 92 = .ok (.goto (-80), 3) := by decide +kernel
theorem dR_takesNumber_95 : decode mR_takesNumber.2.1 95 = .ok (.aload_n 0, 1) := by decide +kernel
theorem dR_takesNumber_96 : decode mR_takesNumber.2.1 96 = .ok (.getfield 22, 3) := by decide +kernel
theorem dR_takesNumber_99 : decode mR_takesNumber.2.1 99 = .ok (.iload_n 1, 1) := by decide +kernel
theorem dR_takesNumber_100 : decode mR_takesNumber.2.1 100 = .ok (.if_icmp .le 7, 3) := by decide +kernel
theorem dR_takesNumber_103 : decode mR_takesNumber.2.1 103 = .ok (.iconst 1, 1) := by decide +kernel
theorem dR_takesNumber_104 : decode mR_takesNumber.2.1 104 = .ok (.goto 4, 3) := by decide +kernel
theorem dR_takesNumber_107 : decode mR_takesNumber.2.1 107 = .ok (.iconst 0, 1) := by decide +kernel
theorem dR_takesNumber_108 : decode mR_takesNumber.2.1 108 = .ok (.ireturn, 1) := by decide +kernel
theorem dR_takesWord_0 : decode mR_takesWord.2.1 0 = .ok (.iconst 0, 1) := by decide +kernel
theorem dR_takesWord_1 : decode mR_takesWord.2.1 1 = .ok (.istore_n 2, 1) := by decide +kernel
theorem dR_takesWord_2 : decode mR_takesWord.2.1 2 = .ok (.iload_n 2, 1) := by decide +kernel
theorem dR_takesWord_3 : decode mR_takesWord.2.1 3 = .ok (.aload_n 1, 1) := by decide +kernel
theorem dR_takesWord_4 : decode mR_takesWord.2.1 4 = .ok (.invokevirtual 90, 3) := by decide +kernel
theorem dR_takesWord_7 : decode mR_takesWord.2.1 7 = .ok (.if_icmp .ge 23, 3) := by decide +kernel
theorem dR_takesWord_10 : decode mR_takesWord.2.1 10 = .ok (.aload_n 0, 1) := by decide +kernel
theorem dR_takesWord_11 : decode mR_takesWord.2.1 11 = .ok (.aload_n 1, 1) := by decide +kernel
theorem dR_takesWord_12 : decode mR_takesWord.2.1 12 = .ok (.iload_n 2, 1) := by decide +kernel
theorem dR_takesWord_13 : decode mR_takesWord.2.1 13 = .ok (.invokevirtual 93, 3) := by decide +kernel
theorem dR_takesWord_16 : decode mR_takesWord.2.1 16 = .ok (.invokevirtual 31, 3) := by decide +kernel
theorem dR_takesWord_19 : decode mR_takesWord.2.1 19 = .ok (.ifCond .ne 5, 3) := by decide +kernel
theorem dR_takesWord_22 : decode mR_takesWord.2.1 22 = .ok (.iconst 0, 1) := by decide +kernel
theorem dR_takesWord_23 : decode mR_takesWord.2.1 23 = .ok (.ireturn, 1) := by decide +kernel
theorem dR_takesWord_24 : decode mR_takesWord.2.1 24 = .ok (.iinc 2 1, 3) := by decide +kernel
theorem dR_takesWord_27 : decode mR_takesWord.2.1 27 = .ok (.goto (-25), 3) := by decide +kernel
theorem dR_takesWord_30 : decode mR_takesWord.2.1 30 = .ok (.iconst 1, 1) := by decide +kernel
theorem dR_takesWord_31 : decode mR_takesWord.2.1 31 = .ok (.ireturn, 1) := by decide +kernel
theorem dR_takes_0 : decode mR_takes.2.1 0 = .ok (.aload_n 0, 1) := by decide +kernel
theorem dR_takes_1 : decode mR_takes.2.1 1 = .ok (.invokevirtual 39, 3) := by decide +kernel
theorem dR_takes_4 : decode mR_takes.2.1 4 = .ok (.iload_n 1, 1) := by decide +kernel
theorem dR_takes_5 : decode mR_takes.2.1 5 = .ok (.if_icmp .eq 5, 3) := by decide +kernel
theorem dR_takes_8 : decode mR_takes.2.1 8 = .ok (.iconst 0, 1) := by decide +kernel
theorem dR_takes_9 : decode mR_takes.2.1 9 = .ok (.ireturn, 1) := by decide +kernel
theorem dR_takes_10 : decode mR_takes.2.1 10 = .ok (.aload_n 0, 1) := by decide +kernel
theorem dR_takes_11 : decode mR_takes.2.1 11 = .ok (.dup, 1) := by decide +kernel
theorem dR_takes_12 : decode mR_takes.2.1 12 = .ok (.getfield 22, 3) := by decide +kernel
theorem dR_takes_15 : decode mR_takes.2.1 15 = .ok (.iconst 1, 1) := by decide +kernel
theorem dR_takes_16 : decode mR_takes.2.1 16 = .ok (.iadd, 1) := by decide +kernel
theorem dR_takes_17 : decode mR_takes.2.1 17 = .ok (.putfield 22, 3) := by decide +kernel
theorem dR_takes_20 : decode mR_takes.2.1 20 = .ok (.iconst 1, 1) := by decide +kernel
theorem dR_takes_21 : decode mR_takes.2.1 21 = .ok (.ireturn, 1) := by decide +kernel
theorem dR_sign_0 : decode mR_sign.2.1 0 = .ok (.aload_n 0, 1) := by decide +kernel
theorem dR_sign_1 : decode mR_sign.2.1 1 = .ok (.getfield 22, 3) := by decide +kernel
theorem dR_sign_4 : decode mR_sign.2.1 4 = .ok (.aload_n 0, 1) := by decide +kernel
theorem dR_sign_5 : decode mR_sign.2.1 5 = .ok (.getfield 18, 3) := by decide +kernel
theorem dR_sign_8 : decode mR_sign.2.1 8 = .ok (.if_icmp .ge 28, 3) := by decide +kernel
theorem dR_sign_11 : decode mR_sign.2.1 11 = .ok (.aload_n 0, 1) := by decide +kernel
theorem dR_sign_12 : decode mR_sign.2.1 12 = .ok (.getfield 22, 3) := by decide +kernel
theorem dR_sign_15 : decode mR_sign.2.1 15 = .ok (.aload_n 0, 1) := by decide +kernel
theorem dR_sign_16 : decode mR_sign.2.1 16 = .ok (.getfield 15, 3) := by decide +kernel
theorem dR_sign_19 : decode mR_sign.2.1 19 = .ok (.arraylength, 1) := by decide +kernel
theorem dR_sign_20 : decode mR_sign.2.1 20 = .ok (.if_icmp .ge 16, 3) := by decide +kernel
theorem dR_sign_23 : decode mR_sign.2.1 23 = .ok (.aload_n 0, 1) := by decide +kernel
theorem dR_sign_24 : decode mR_sign.2.1 24 = .ok (.getfield 15, 3) := by decide +kernel
theorem dR_sign_27 : decode mR_sign.2.1 27 = .ok (.aload_n 0, 1) := by decide +kernel
theorem dR_sign_28 : decode mR_sign.2.1 28 = .ok (.getfield 22, 3) := by decide +kernel
theorem dR_sign_31 : decode mR_sign.2.1 31 = .ok (.iaload, 1) := by decide +kernel
theorem dR_sign_32 : decode mR_sign.2.1 32 = .ok (.i2c, 1) := by decide +kernel
theorem dR_sign_33 : decode mR_sign.2.1 33 = .ok (.goto 6, 3) := by decide +kernel
theorem dR_sign_36 : decode mR_sign.2.1 36 = .ok (.sipush 255, 3) := by decide +kernel
theorem dR_sign_39 : decode mR_sign.2.1 39 = .ok (.ireturn, 1) := by decide +kernel
theorem dR_writes_0 : decode mR_writes.2.1 0 = .ok (.aload_n 0, 1) := by decide +kernel
theorem dR_writes_1 : decode mR_writes.2.1 1 = .ok (.getfield 25, 3) := by decide +kernel
theorem dR_writes_4 : decode mR_writes.2.1 4 = .ok (.aload_n 0, 1) := by decide +kernel
theorem dR_writes_5 : decode mR_writes.2.1 5 = .ok (.getfield 9, 3) := by decide +kernel
theorem dR_writes_8 : decode mR_writes.2.1 8 = .ok (.arraylength, 1) := by decide +kernel
theorem dR_writes_9 : decode mR_writes.2.1 9 = .ok (.if_icmp .lt 5, 3) := by decide +kernel
theorem dR_writes_12 : decode mR_writes.2.1 12 = .ok (.iconst 0, 1) := by decide +kernel
theorem dR_writes_13 : decode mR_writes.2.1 13 = .ok (.ireturn, 1) := by decide +kernel
theorem dR_writes_14 : decode mR_writes.2.1 14 = .ok (.aload_n 0, 1) := by decide +kernel
theorem dR_writes_15 : decode mR_writes.2.1 15 = .ok (.getfield 9, 3) := by decide +kernel
theorem dR_writes_18 : decode mR_writes.2.1 18 = .ok (.aload_n 0, 1) := by decide +kernel
theorem dR_writes_19 : decode mR_writes.2.1 19 = .ok (.getfield 25, 3) := by decide +kernel
theorem dR_writes_22 : decode mR_writes.2.1 22 = .ok (.iload_n 1, 1) := by decide +kernel
theorem dR_writes_23 : decode mR_writes.2.1 23 = .ok (.iastore, 1) := by decide +kernel
theorem dR_writes_24 : decode mR_writes.2.1 24 = .ok (.aload_n 0, 1) := by decide +kernel
theorem dR_writes_25 : decode mR_writes.2.1 25 = .ok (.dup, 1) := by decide +kernel
theorem dR_writes_26 : decode mR_writes.2.1 26 = .ok (.getfield 25, 3) := by decide +kernel
theorem dR_writes_29 : decode mR_writes.2.1 29 = .ok (.iconst 1, 1) := by decide +kernel
theorem dR_writes_30 : decode mR_writes.2.1 30 = .ok (.iadd, 1) := by decide +kernel
theorem dR_writes_31 : decode mR_writes.2.1 31 = .ok (.putfield 25, 3) := by decide +kernel
theorem dR_writes_34 : decode mR_writes.2.1 34 = .ok (.iconst 1, 1) := by decide +kernel
theorem dR_writes_35 : decode mR_writes.2.1 35 = .ok (.ireturn, 1) := by decide +kernel
theorem dL_init_0 : decode mL_init.2.1 0 = .ok (.aload_n 0, 1) := by decide +kernel
theorem dL_init_1 : decode mL_init.2.1 1 = .ok (.invokespecial 3, 3) := by decide +kernel
theorem dL_init_4 : decode mL_init.2.1 4 = .ok (.aload_n 0, 1) := by decide +kernel
theorem dL_init_5 : decode mL_init.2.1 5 = .ok (.bipush 100, 2) := by decide +kernel
theorem dL_init_7 : decode mL_init.2.1 7 = .ok (.newarray .int, 2) := by decide +kernel
theorem dL_init_9 : decode mL_init.2.1 9 = .ok (.putfield 9, 3) := by decide +kernel
theorem dL_init_12 : decode mL_init.2.1 12 = .ok (.aload_n 0, 1) := by decide +kernel
theorem dL_init_13 : decode mL_init.2.1 13 = .ok (.bipush 6, 2) := by decide +kernel
theorem dL_init_15 : decode mL_init.2.1 15 = .ok (.bipush 100, 2) := by decide +kernel
theorem dL_init_17 : decode mL_init.2.1 17 = .ok (.multianewarray 15 2, 4) := by decide +kernel
theorem dL_init_21 : decode mL_init.2.1 21 = .ok (.putfield 17, 3) := by decide +kernel
theorem dL_init_24 : decode mL_init.2.1 24 = .ok (.aload_n 0, 1) := by decide +kernel
theorem dL_init_25 : decode mL_init.2.1 25 = .ok (.bipush 6, 2) := by decide +kernel
theorem dL_init_27 : decode mL_init.2.1 27 = .ok (.newarray .int, 2) := by decide +kernel
theorem dL_init_29 : decode mL_init.2.1 29 = .ok (.putfield 20, 3) := by decide +kernel
theorem dL_init_32 : decode mL_init.2.1 32 = .ok (.aload_n 0, 1) := by decide +kernel
theorem dL_init_33 : decode mL_init.2.1 33 = .ok (.bipush 6, 2) := by decide +kernel
theorem dL_init_35 : decode mL_init.2.1 35 = .ok (.newarray .int, 2) := by decide +kernel
theorem dL_init_37 : decode mL_init.2.1 37 = .ok (.putfield 23, 3) := by decide +kernel
theorem dL_init_40 : decode mL_init.2.1 40 = .ok (.aload_n 0, 1) := by decide +kernel
theorem dL_init_41 : decode mL_init.2.1 41 = .ok (.new 26, 3) := by decide +kernel
theorem dL_init_44 : decode mL_init.2.1 44 = .ok (.dup, 1) := by decide +kernel
theorem dL_init_45 : decode mL_init.2.1 45 = .ok (.aload_n 0, 1) := by decide +kernel
theorem dL_init_46 : decode mL_init.2.1 46 = .ok (.getfield 9, 3) := by decide +kernel
theorem dL_init_49 : decode mL_init.2.1 49 = .ok (.invokespecial 28, 3) := by decide +kernel
theorem dL_init_52 : decode mL_init.2.1 52 = .ok (.putfield 31, 3) := by decide +kernel
theorem dL_init_55 : decode mL_init.2.1 55 = .ok (.return_, 1) := by decide +kernel
theorem dL_addSign_0 : decode mL_addSign.2.1 0 = .ok (.aload_n 0, 1) := by decide +kernel
theorem dL_addSign_1 : decode mL_addSign.2.1 1 = .ok (.getfield 35, 3) := by decide +kernel
theorem dL_addSign_4 : decode mL_addSign.2.1 4 = .ok (.bipush 100, 2) := by decide +kernel
theorem dL_addSign_6 : decode mL_addSign.2.1 6 = .ok (.if_icmp .lt 6, 3) := by decide +kernel
theorem dL_addSign_9 : decode mL_addSign.2.1 9 = .ok (.bipush (-4), 2) := by decide +kernel
theorem dL_addSign_11 : decode mL_addSign.2.1 11 = .ok (.ireturn, 1) := by decide +kernel
theorem dL_addSign_12 : decode mL_addSign.2.1 12 = .ok (.aload_n 0, 1) := by decide +kernel
theorem dL_addSign_13 : decode mL_addSign.2.1 13 = .ok (.getfield 9, 3) := by decide +kernel
theorem dL_addSign_16 : decode mL_addSign.2.1 16 = .ok (.aload_n 0, 1) := by decide +kernel
theorem dL_addSign_17 : decode mL_addSign.2.1 17 = .ok (.getfield 35, 3) := by decide +kernel
theorem dL_addSign_20 : decode mL_addSign.2.1 20 = .ok (.iload_n 1, 1) := by decide +kernel
theorem dL_addSign_21 : decode mL_addSign.2.1 21 = .ok (.iastore, 1) := by decide +kernel
theorem dL_addSign_22 : decode mL_addSign.2.1 22 = .ok (.aload_n 0, 1) := by decide +kernel
theorem dL_addSign_23 : decode mL_addSign.2.1 23 = .ok (.dup, 1) := by decide +kernel
theorem dL_addSign_24 : decode mL_addSign.2.1 24 = .ok (.getfield 35, 3) := by decide +kernel
theorem dL_addSign_27 : decode mL_addSign.2.1 27 = .ok (.iconst 1, 1) := by decide +kernel
theorem dL_addSign_28 : decode mL_addSign.2.1 28 = .ok (.iadd, 1) := by decide +kernel
theorem dL_addSign_29 : decode mL_addSign.2.1 29 = .ok (.putfield 35, 3) := by decide +kernel
theorem dL_addSign_32 : decode mL_addSign.2.1 32 = .ok (.aload_n 0, 1) := by decide +kernel
theorem dL_addSign_33 : decode mL_addSign.2.1 33 = .ok (.getfield 35, 3) := by decide +kernel
theorem dL_addSign_36 : decode mL_addSign.2.1 36 = .ok (.ireturn, 1) := by decide +kernel
theorem dL_enact_0 : decode mL_enact.2.1 0 = .ok (.aload_n 0, 1) := by decide +kernel
theorem dL_enact_1 : decode mL_enact.2.1 1 = .ok (.getfield 39, 3) := by decide +kernel
theorem dL_enact_4 : decode mL_enact.2.1 4 = .ok (.bipush 6, 2) := by decide +kernel
theorem dL_enact_6 : decode mL_enact.2.1 6 = .ok (.if_icmp .lt 6, 3) := by decide +kernel
theorem dL_enact_9 : decode mL_enact.2.1 9 = .ok (.bipush (-4), 2) := by decide +kernel
theorem dL_enact_11 : decode mL_enact.2.1 11 = .ok (.ireturn, 1) := by decide +kernel
theorem dL_enact_12 : decode mL_enact.2.1 12 = .ok (.aload_n 0, 1) := by decide +kernel
theorem dL_enact_13 : decode mL_enact.2.1 13 = .ok (.getfield 31, 3) := by decide +kernel
theorem dL_enact_16 : decode mL_enact.2.1 16 = .ok (.aload_n 0, 1) := by decide +kernel
theorem dL_enact_17 : decode mL_enact.2.1 17 = .ok (.getfield 35, 3) := by decide +kernel
theorem dL_enact_20 : decode mL_enact.2.1 20 = .ok (.aload_n 0, 1) := by decide +kernel
theorem dL_enact_21 : decode mL_enact.2.1 21 = .ok (.getfield 17, 3) := by decide +kernel
theorem dL_enact_24 : decode mL_enact.2.1 24 = .ok (.aload_n 0, 1) := by decide +kernel
theorem dL_enact_25 : decode mL_enact.2.1 25 = .ok (.getfield 39, 3) := by decide +kernel
theorem dL_enact_28 : decode mL_enact.2.1 28 = .ok (.aaload, 1) := by decide +kernel
theorem dL_enact_29 : decode mL_enact.2.1 29 = .ok (.invokevirtual 42, 3) := by decide +kernel
theorem dL_enact_32 : decode mL_enact.2.1 32 = .ok (.istore_n 1, 1) := by decide +kernel
theorem dL_enact_33 : decode mL_enact.2.1 33 = .ok (.aload_n 0, 1) := by decide +kernel
theorem dL_enact_34 : decode mL_enact.2.1 34 = .ok (.iconst 0, 1) := by decide +kernel
theorem dL_enact_35 : decode mL_enact.2.1 35 = .ok (.putfield 35, 3) := by decide +kernel
theorem dL_enact_38 : decode mL_enact.2.1 38 = .ok (.iload_n 1, 1) := by decide +kernel
theorem dL_enact_39 : decode mL_enact.2.1 39 = .ok (.ifCond .ne 14, 3) := by decide +kernel
theorem dL_enact_42 : decode mL_enact.2.1 42 = .ok (.bipush (-10), 2) := by decide +kernel
theorem dL_enact_44 : decode mL_enact.2.1 44 = .ok (.aload_n 0, 1) := by decide +kernel
theorem dL_enact_45 : decode mL_enact.2.1 45 = .ok (.getfield 31, 3) := by decide +kernel
theorem dL_enact_48 : decode mL_enact.2.1 48 = .ok (.getfield 46, 3) := by decide +kernel
theorem dL_enact_51 : decode mL_enact.2.1 51 = .ok (.isub, 1) := by decide +kernel
theorem dL_enact_52 : decode mL_enact.2.1 52 = .ok (.ireturn, 1) := by decide +kernel
theorem dL_enact_53 : decode mL_enact.2.1 53 = .ok (.aload_n 0, 1) := by decide +kernel
theorem dL_enact_54 : decode mL_enact.2.1 54 = .ok (.getfield 20, 3) := by decide +kernel
theorem dL_enact_57 : decode mL_enact.2.1 57 = .ok (.aload_n 0, 1) := by decide +kernel
theorem dL_enact_58 : decode mL_enact.2.1 58 = .ok (.getfield 39, 3) := by decide +kernel
theorem dL_enact_61 : decode mL_enact.2.1 61 = .ok (.aload_n 0, 1) := by decide +kernel
theorem dL_enact_62 : decode mL_enact.2.1 62 = .ok (.getfield 31, 3) := by decide +kernel
theorem dL_enact_65 : decode mL_enact.2.1 65 = .ok (.getfield 49, 3) := by decide +kernel
theorem dL_enact_68 : decode mL_enact.2.1 68 = .ok (.iastore, 1) := by decide +kernel
theorem dL_enact_69 : decode mL_enact.2.1 69 = .ok (.aload_n 0, 1) := by decide +kernel
theorem dL_enact_70 : decode mL_enact.2.1 70 = .ok (.getfield 23, 3) := by decide +kernel
theorem dL_enact_73 : decode mL_enact.2.1 73 = .ok (.aload_n 0, 1) := by decide +kernel
theorem dL_enact_74 : decode mL_enact.2.1 74 = .ok (.getfield 39, 3) := by decide +kernel
theorem dL_enact_77 : decode mL_enact.2.1 77 = .ok (.aload_n 0, 1) := by decide +kernel
theorem dL_enact_78 : decode mL_enact.2.1 78 = .ok (.getfield 31, 3) := by decide +kernel
theorem dL_enact_81 : decode mL_enact.2.1 81 = .ok (.getfield 52, 3) := by decide +kernel
theorem dL_enact_84 : decode mL_enact.2.1 84 = .ok (.iastore, 1) := by decide +kernel
theorem dL_enact_85 : decode mL_enact.2.1 85 = .ok (.aload_n 0, 1) := by decide +kernel
theorem dL_enact_86 : decode mL_enact.2.1 86 = .ok (.dup, 1) := by decide +kernel
theorem dL_enact_87 : decode mL_enact.2.1 87 = .ok (.getfield 39, 3) := by decide +kernel
theorem dL_enact_90 : decode mL_enact.2.1 90 = .ok (.iconst 1, 1) := by decide +kernel
theorem dL_enact_91 : decode mL_enact.2.1 91 = .ok (.iadd, 1) := by decide +kernel
theorem dL_enact_92 : decode mL_enact.2.1 92 = .ok (.putfield 39, 3) := by decide +kernel
theorem dL_enact_95 : decode mL_enact.2.1 95 = .ok (.aload_n 0, 1) := by decide +kernel
theorem dL_enact_96 : decode mL_enact.2.1 96 = .ok (.getfield 39, 3) := by decide +kernel
theorem dL_enact_99 : decode mL_enact.2.1 99 = .ok (.iconst 1, 1) := by decide +kernel
theorem dL_enact_100 : decode mL_enact.2.1 100 = .ok (.isub, 1) := by decide +kernel
theorem dL_enact_101 : decode mL_enact.2.1 101 = .ok (.ireturn, 1) := by decide +kernel
theorem dL_baseOf_0 : decode mL_baseOf.2.1 0 = .ok (.iload_n 1, 1) := by decide +kernel
theorem dL_baseOf_1 : decode mL_baseOf.2.1 1 = .ok (.ifCond .lt 20, 3) := by decide +kernel
theorem dL_baseOf_4 : decode mL_baseOf.2.1 4 = .ok (.iload_n 1, 1) := by decide +kernel
theorem dL_baseOf_5 : decode mL_baseOf.2.1 5 = .ok (.aload_n 0, 1) := by decide +kernel
theorem dL_baseOf_6 : decode mL_baseOf.2.1 6 = .ok (.getfield 39, 3) := by decide +kernel
theorem dL_baseOf_9 : decode mL_baseOf.2.1 9 = .ok (.if_icmp .ge 12, 3) := by decide +kernel
theorem dL_baseOf_12 : decode mL_baseOf.2.1 12 = .ok (.aload_n 0, 1) := by decide +kernel
theorem dL_baseOf_13 : decode mL_baseOf.2.1 13 = .ok (.getfield 23, 3) := by decide +kernel
theorem dL_baseOf_16 : decode mL_baseOf.2.1 16 = .ok (.iload_n 1, 1) := by decide +kernel
theorem dL_baseOf_17 : decode mL_baseOf.2.1 17 = .ok (.iaload, 1) := by decide +kernel
theorem dL_baseOf_18 : decode mL_baseOf.2.1 18 = .ok (.goto 5, 3) := by decide +kernel
theorem dL_baseOf_21 : decode mL_baseOf.2.1 21 = .ok (.bipush 10, 2) := by decide +kernel
theorem dL_baseOf_23 : decode mL_baseOf.2.1 23 = .ok (.ireturn, 1) := by decide +kernel
theorem dL_extraOf_0 : decode mL_extraOf.2.1 0 = .ok (.iload_n 1, 1) := by decide +kernel
theorem dL_extraOf_1 : decode mL_extraOf.2.1 1 = .ok (.ifCond .lt 11, 3) := by decide +kernel
theorem dL_extraOf_4 : decode mL_extraOf.2.1 4 = .ok (.iload_n 1, 1) := by decide +kernel
theorem dL_extraOf_5 : decode mL_extraOf.2.1 5 = .ok (.aload_n 0, 1) := by decide +kernel
theorem dL_extraOf_6 : decode mL_extraOf.2.1 6 = .ok (.getfield 39, 3) := by decide +kernel
theorem dL_extraOf_9 : decode mL_extraOf.2.1 9 = .ok (.if_icmp .lt 5, 3) := by decide +kernel
theorem dL_extraOf_12 : decode mL_extraOf.2.1 12 = .ok (.iconst 0, 1) := by decide +kernel
theorem dL_extraOf_13 : decode mL_extraOf.2.1 13 = .ok (.ireturn, 1) := by decide +kernel
theorem dL_extraOf_14 : decode mL_extraOf.2.1 14 = .ok (.aload_n 0, 1) := by decide +kernel
theorem dL_extraOf_15 : decode mL_extraOf.2.1 15 = .ok (.getfield 17, 3) := by decide +kernel
theorem dL_extraOf_18 : decode mL_extraOf.2.1 18 = .ok (.iload_n 1, 1) := by decide +kernel
theorem dL_extraOf_19 : decode mL_extraOf.2.1 19 = .ok (.aaload, 1) := by decide +kernel
theorem dL_extraOf_20 : decode mL_extraOf.2.1 20 = .ok (.astore_n 3, 1) := by decide +kernel
theorem dL_extraOf_21 : decode mL_extraOf.2.1 21 = .ok (.iconst 0, 1) := by decide +kernel
theorem dL_extraOf_22 : decode mL_extraOf.2.1 22 = .ok (.istore 4, 2) := by decide +kernel
theorem dL_extraOf_24 : decode mL_extraOf.2.1 24 = .ok (.iconst 0, 1) := by decide +kernel
theorem dL_extraOf_25 : decode mL_extraOf.2.1 25 = .ok (.istore 5, 2) := by decide +kernel
theorem dL_extraOf_27 : decode mL_extraOf.2.1 27 = .ok (.iconst 0, 1) := by decide +kernel
theorem dL_extraOf_28 : decode mL_extraOf.2.1 28 = .ok (.istore 6, 2) := by decide +kernel
theorem dL_extraOf_30 : decode mL_extraOf.2.1 30 = .ok (.iload 6, 2) := by decide +kernel
theorem dL_extraOf_32 : decode mL_extraOf.2.1 32 = .ok (.aload_n 0, 1) := by decide +kernel
theorem dL_extraOf_33 : decode mL_extraOf.2.1 33 = .ok (.getfield 20, 3) := by decide +kernel
theorem dL_extraOf_36 : decode mL_extraOf.2.1 36 = .ok (.iload_n 1, 1) := by decide +kernel
theorem dL_extraOf_37 : decode mL_extraOf.2.1 37 = .ok (.iaload, 1) := by decide +kernel
theorem dL_extraOf_38 : decode mL_extraOf.2.1 38 = .ok (.if_icmp .ge 97, 3) := by decide +kernel
theorem dL_extraOf_41 : decode mL_extraOf.2.1 41 = .ok (.iload 6, 2) := by decide +kernel
theorem dL_extraOf_43 : decode mL_extraOf.2.1 43 = .ok (.aload_n 3, 1) := by decide +kernel
theorem dL_extraOf_44 : decode mL_extraOf.2.1 44 = .ok (.arraylength, 1) := by decide +kernel
theorem dL_extraOf_45 : decode mL_extraOf.2.1 45 = .ok (.if_icmp .ge 90, 3) := by decide +kernel
theorem dL_extraOf_48 : decode mL_extraOf.2.1 48 = .ok (.aload_n 3, 1) := by decide +kernel
theorem dL_extraOf_49 : decode mL_extraOf.2.1 49 = .ok (.iload 6, 2) := by decide +kernel
theorem dL_extraOf_51 : decode mL_extraOf.2.1 51 = .ok (.iaload, 1) := by decide +kernel
theorem dL_extraOf_52 : decode mL_extraOf.2.1 52 = .ok (.istore 7, 2) := by decide +kernel
theorem dL_extraOf_54 : decode mL_extraOf.2.1 54 = .ok (.iload 7, 2) := by decide +kernel
theorem dL_extraOf_56 : decode mL_extraOf.2.1 56 = .ok (.sipush 10000, 3) := by decide +kernel
theorem dL_extraOf_59 : decode mL_extraOf.2.1 59 = .ok (.if_icmp .lt 32, 3) := by decide +kernel
theorem dL_extraOf_62 : decode mL_extraOf.2.1 62 = .ok (.iload 4, 2) := by decide +kernel
theorem dL_extraOf_64 : decode mL_extraOf.2.1 64 = .ok (.iload 5, 2) := by decide +kernel
theorem dL_extraOf_66 : decode mL_extraOf.2.1 66 = .ok (.iconst 0, 1) := by decide +kernel
theorem dL_extraOf_67 : decode mL_extraOf.2.1 67 = .ok (.invokestatic 57, 3) := by decide +kernel
theorem dL_extraOf_70 : decode mL_extraOf.2.1 70 = .ok (.ifCond .eq 11, 3) := by decide +kernel
theorem dL_extraOf_73 : decode mL_extraOf.2.1 73 = .ok (.iload 7, 2) := by decide +kernel
theorem dL_extraOf_75 : decode mL_extraOf.2.1 75 = .ok (.invokestatic 61, 3) := by decide +kernel
theorem dL_extraOf_78 : decode mL_extraOf.2.1 78 = .ok (.goto 4, 3) := by decide +kernel
theorem dL_extraOf_81 : decode mL_extraOf.2.1 81 = .ok (.iconst 0, 1) := by decide +kernel
theorem dL_extraOf_82 : decode mL_extraOf.2.1 82 = .ok (.iadd, 1) := by decide +kernel
theorem dL_extraOf_83 : decode mL_extraOf.2.1 83 = .ok (.istore 4, 2) := by decide +kernel
theorem dL_extraOf_85 : decode mL_extraOf.2.1 85 = .ok (.iconst 0, 1) := by decide +kernel
theorem dL_extraOf_86 : decode mL_extraOf.2.1 86 = .ok (.istore 5, 2) := by decide +kernel
theorem dL_extraOf_88 : decode mL_extraOf.2.1 88 = .ok (.goto 41, 3) := by decide +kernel
theorem dL_extraOf_91 : decode mL_extraOf.2.1 91 = .ok (.iload 7, 2) := by decide +kernel
theorem dL_extraOf_93 : decode mL_extraOf.2.1 93 = .ok (.ifCond .lt 27, 3) := by decide +kernel
theorem dL_extraOf_96 : decode mL_extraOf.2.1 96 = .ok (.iload 5, 2) := by decide +kernel
theorem dL_extraOf_98 : decode mL_extraOf.2.1 98 = .ok (.iconst 1, 1) := by decide +kernel
theorem dL_extraOf_99 : decode mL_extraOf.2.1 99 = .ok (.ishl, 1) := by decide +kernel
theorem dL_extraOf_100 : decode mL_extraOf.2.1 100 = .ok (.iload 7, 2) := by decide +kernel
theorem dL_extraOf_102 : decode mL_extraOf.2.1 102 = .ok (.aload_n 2, 1) := by decide +kernel
theorem dL_extraOf_103 : decode mL_extraOf.2.1 103 = .ok (.invokestatic 65, 3) := by decide +kernel
theorem dL_extraOf_106 : decode mL_extraOf.2.1 106 = .ok (.ifCond .eq 7, 3) := by decide +kernel
theorem dL_extraOf_109 : decode mL_extraOf.2.1 109 = .ok (.iconst 1, 1) := by decide +kernel
theorem dL_extraOf_110 : decode mL_extraOf.2.1 110 = .ok (.goto 4, 3) := by decide +kernel
theorem dL_extraOf_113 : decode mL_extraOf.2.1 113 = .ok (.iconst 0, 1) := by decide +kernel
theorem dL_extraOf_114 : decode mL_extraOf.2.1 114 = .ok (.ior, 1) := by decide +kernel
theorem dL_extraOf_115 : decode mL_extraOf.2.1 115 = .ok (.istore 5, 2) := by decide +kernel
theorem dL_extraOf_117 : decode mL_extraOf.2.1 117 = .ok (.goto 12, 3) := by decide +kernel
theorem dL_extraOf_120 : decode mL_extraOf.2.1 120 = .ok (.iload 7, 2) := by decide +kernel
theorem dL_extraOf_122 : decode mL_extraOf.2.1 122 = .ok (.iload 5, 2) := by decide +kernel
theorem dL_extraOf_124 : decode mL_extraOf.2.1 124 = .ok (.invokestatic 68, 3) := by decide +kernel
theorem dL_extraOf_127 : decode mL_extraOf.2.1 127 = .ok (.istore 5, 2) := by decide +kernel
theorem dL_extraOf_129 : decode mL_extraOf.2.1 129 = .ok (.iinc 6 1, 3) := by decide +kernel
theorem dL_extraOf_132 : decode mL_extraOf.2.1 132 = .ok (.goto (-102), 3) := by decide +kernel
theorem dL_extraOf_135 : decode mL_extraOf.2.1 135 = .ok (.iload 4, 2) := by decide +kernel
theorem dL_extraOf_137 : decode mL_extraOf.2.1 137 = .ok (.ireturn, 1) := by decide +kernel
theorem dL_amount_0 : decode mL_amount.2.1 0 = .ok (.iload_n 0, 1) := by decide +kernel
theorem dL_amount_1 : decode mL_amount.2.1 1 = .ok (.sipush 20000, 3) := by decide +kernel
theorem dL_amount_4 : decode mL_amount.2.1 4 = .ok (.if_icmp .lt 11, 3) := by decide +kernel
theorem dL_amount_7 : decode mL_amount.2.1 7 = .ok (.sipush 20000, 3) := by decide +kernel
theorem dL_amount_10 : decode mL_amount.2.1 10 = .ok (.iload_n 0, 1) := by decide +kernel
theorem dL_amount_11 : decode mL_amount.2.1 11 = .ok (.isub, 1) := by decide +kernel
theorem dL_amount_12 : decode mL_amount.2.1 12 = .ok (.goto 8, 3) := by decide +kernel
theorem dL_amount_15 : decode mL_amount.2.1 15 = .ok (.iload_n 0, 1) := by decide +kernel
theorem dL_amount_16 : decode mL_amount.2.1 16 = .ok (.sipush 10000, 3) := by decide +kernel
theorem dL_amount_19 : decode mL_amount.2.1 19 = .ok (.isub, 1) := by decide +kernel
theorem dL_amount_20 : decode mL_amount.2.1 20 = .ok (.ireturn, 1) := by decide +kernel
theorem dP_init_0 : decode mP_init.2.1 0 = .ok (.aload_n 0, 1) := by decide +kernel
theorem dP_init_1 : decode mP_init.2.1 1 = .ok (.invokespecial 3, 3) := by decide +kernel
theorem dP_init_4 : decode mP_init.2.1 4 = .ok (.aload_n 0, 1) := by decide +kernel
theorem dP_init_5 : decode mP_init.2.1 5 = .ok (.bipush 6, 2) := by decide +kernel
theorem dP_init_7 : decode mP_init.2.1 7 = .ok (.newarray .int, 2) := by decide +kernel
theorem dP_init_9 : decode mP_init.2.1 9 = .ok (.putfield 9, 3) := by decide +kernel
theorem dP_init_12 : decode mP_init.2.1 12 = .ok (.aload_n 0, 1) := by decide +kernel
theorem dP_init_13 : decode mP_init.2.1 13 = .ok (.aload_n 1, 1) := by decide +kernel
theorem dP_init_14 : decode mP_init.2.1 14 = .ok (.putfield 15, 3) := by decide +kernel
theorem dP_init_17 : decode mP_init.2.1 17 = .ok (.aload_n 0, 1) := by decide +kernel
theorem dP_init_18 : decode mP_init.2.1 18 = .ok (.aload_n 2, 1) := by decide +kernel
theorem dP_init_19 : decode mP_init.2.1 19 = .ok (.putfield 19, 3) := by decide +kernel
theorem dP_init_22 : decode mP_init.2.1 22 = .ok (.return_, 1) := by decide +kernel
theorem dP_payNow_0 : decode mP_payNow.2.1 0 = .ok (.aload_n 0, 1) := by decide +kernel
theorem dP_payNow_1 : decode mP_payNow.2.1 1 = .ok (.aload_n 1, 1) := by decide +kernel
theorem dP_payNow_2 : decode mP_payNow.2.1 2 = .ok (.iload_n 2, 1) := by decide +kernel
theorem dP_payNow_3 : decode mP_payNow.2.1 3 = .ok (.aload_n 1, 1) := by decide +kernel
theorem dP_payNow_4 : decode mP_payNow.2.1 4 = .ok (.getfield 23, 3) := by decide +kernel
theorem dP_payNow_7 : decode mP_payNow.2.1 7 = .ok (.aload_n 0, 1) := by decide +kernel
theorem dP_payNow_8 : decode mP_payNow.2.1 8 = .ok (.getfield 15, 3) := by decide +kernel
theorem dP_payNow_11 : decode mP_payNow.2.1 11 = .ok (.getfield 29, 3) := by decide +kernel
theorem dP_payNow_14 : decode mP_payNow.2.1 14 = .ok (.invokevirtual 34, 3) := by decide +kernel
theorem dP_payNow_17 : decode mP_payNow.2.1 17 = .ok (.ireturn, 1) := by decide +kernel
theorem dP_payIf_0 : decode mP_payIf.2.1 0 = .ok (.iload 4, 2) := by decide +kernel
theorem dP_payIf_2 : decode mP_payIf.2.1 2 = .ok (.aload_n 1, 1) := by decide +kernel
theorem dP_payIf_3 : decode mP_payIf.2.1 3 = .ok (.getfield 38, 3) := by decide +kernel
theorem dP_payIf_6 : decode mP_payIf.2.1 6 = .ok (.isub, 1) := by decide +kernel
theorem dP_payIf_7 : decode mP_payIf.2.1 7 = .ok (.istore 5, 2) := by decide +kernel
theorem dP_payIf_9 : decode mP_payIf.2.1 9 = .ok (.aload_n 0, 1) := by decide +kernel
theorem dP_payIf_10 : decode mP_payIf.2.1 10 = .ok (.getfield 9, 3) := by decide +kernel
theorem dP_payIf_13 : decode mP_payIf.2.1 13 = .ok (.iconst 0, 1) := by decide +kernel
theorem dP_payIf_14 : decode mP_payIf.2.1 14 = .ok (.aload_n 1, 1) := by decide +kernel
theorem dP_payIf_15 : decode mP_payIf.2.1 15 = .ok (.getfield 41, 3) := by decide +kernel
theorem dP_payIf_18 : decode mP_payIf.2.1 18 = .ok (.iastore, 1) := by decide +kernel
theorem dP_payIf_19 : decode mP_payIf.2.1 19 = .ok (.aload_n 0, 1) := by decide +kernel
theorem dP_payIf_20 : decode mP_payIf.2.1 20 = .ok (.getfield 9, 3) := by decide +kernel
theorem dP_payIf_23 : decode mP_payIf.2.1 23 = .ok (.iconst 1, 1) := by decide +kernel
theorem dP_payIf_24 : decode mP_payIf.2.1 24 = .ok (.aload_n 1, 1) := by decide +kernel
theorem dP_payIf_25 : decode mP_payIf.2.1 25 = .ok (.getfield 44, 3) := by decide +kernel
theorem dP_payIf_28 : decode mP_payIf.2.1 28 = .ok (.iastore, 1) := by decide +kernel
theorem dP_payIf_29 : decode mP_payIf.2.1 29 = .ok (.aload_n 0, 1) := by decide +kernel
theorem dP_payIf_30 : decode mP_payIf.2.1 30 = .ok (.getfield 9, 3) := by decide +kernel
theorem dP_payIf_33 : decode mP_payIf.2.1 33 = .ok (.iconst 2, 1) := by decide +kernel
theorem dP_payIf_34 : decode mP_payIf.2.1 34 = .ok (.iload_n 3, 1) := by decide +kernel
theorem dP_payIf_35 : decode mP_payIf.2.1 35 = .ok (.invokestatic 47, 3) := by decide +kernel
theorem dP_payIf_38 : decode mP_payIf.2.1 38 = .ok (.iastore, 1) := by decide +kernel
theorem dP_payIf_39 : decode mP_payIf.2.1 39 = .ok (.aload_n 0, 1) := by decide +kernel
theorem dP_payIf_40 : decode mP_payIf.2.1 40 = .ok (.getfield 9, 3) := by decide +kernel
theorem dP_payIf_43 : decode mP_payIf.2.1 43 = .ok (.iconst 3, 1) := by decide +kernel
theorem dP_payIf_44 : decode mP_payIf.2.1 44 = .ok (.iload_n 2, 1) := by decide +kernel
theorem dP_payIf_45 : decode mP_payIf.2.1 45 = .ok (.iastore, 1) := by decide +kernel
theorem dP_payIf_46 : decode mP_payIf.2.1 46 = .ok (.aload_n 0, 1) := by decide +kernel
theorem dP_payIf_47 : decode mP_payIf.2.1 47 = .ok (.getfield 9, 3) := by decide +kernel
theorem dP_payIf_50 : decode mP_payIf.2.1 50 = .ok (.iconst 4, 1) := by decide +kernel
theorem dP_payIf_51 : decode mP_payIf.2.1 51 = .ok (.aload_n 0, 1) := by decide +kernel
theorem dP_payIf_52 : decode mP_payIf.2.1 52 = .ok (.getfield 15, 3) := by decide +kernel
theorem dP_payIf_55 : decode mP_payIf.2.1 55 = .ok (.getfield 53, 3) := by decide +kernel
theorem dP_payIf_58 : decode mP_payIf.2.1 58 = .ok (.iload_n 2, 1) := by decide +kernel
theorem dP_payIf_59 : decode mP_payIf.2.1 59 = .ok (.iaload, 1) := by decide +kernel
theorem dP_payIf_60 : decode mP_payIf.2.1 60 = .ok (.iastore, 1) := by decide +kernel
theorem dP_payIf_61 : decode mP_payIf.2.1 61 = .ok (.aload_n 0, 1) := by decide +kernel
theorem dP_payIf_62 : decode mP_payIf.2.1 62 = .ok (.getfield 9, 3) := by decide +kernel
theorem dP_payIf_65 : decode mP_payIf.2.1 65 = .ok (.iconst 5, 1) := by decide +kernel
theorem dP_payIf_66 : decode mP_payIf.2.1 66 = .ok (.bipush 99, 2) := by decide +kernel
theorem dP_payIf_68 : decode mP_payIf.2.1 68 = .ok (.iload 5, 2) := by decide +kernel
theorem dP_payIf_70 : decode mP_payIf.2.1 70 = .ok (.invokestatic 56, 3) := by decide +kernel
theorem dP_payIf_73 : decode mP_payIf.2.1 73 = .ok (.iastore, 1) := by decide +kernel
theorem dP_payIf_74 : decode mP_payIf.2.1 74 = .ok (.iconst 0, 1) := by decide +kernel
theorem dP_payIf_75 : decode mP_payIf.2.1 75 = .ok (.aload_n 0, 1) := by decide +kernel
theorem dP_payIf_76 : decode mP_payIf.2.1 76 = .ok (.aload_n 1, 1) := by decide +kernel
theorem dP_payIf_77 : decode mP_payIf.2.1 77 = .ok (.iload_n 2, 1) := by decide +kernel
theorem dP_payIf_78 : decode mP_payIf.2.1 78 = .ok (.iload_n 3, 1) := by decide +kernel
theorem dP_payIf_79 : decode mP_payIf.2.1 79 = .ok (.iload 4, 2) := by decide +kernel
theorem dP_payIf_81 : decode mP_payIf.2.1 81 = .ok (.invokevirtual 62, 3) := by decide +kernel
theorem dP_payIf_84 : decode mP_payIf.2.1 84 = .ok (.aload_n 0, 1) := by decide +kernel
theorem dP_payIf_85 : decode mP_payIf.2.1 85 = .ok (.getfield 19, 3) := by decide +kernel
theorem dP_payIf_88 : decode mP_payIf.2.1 88 = .ok (.aload_n 0, 1) := by decide +kernel
theorem dP_payIf_89 : decode mP_payIf.2.1 89 = .ok (.getfield 15, 3) := by decide +kernel
theorem dP_payIf_92 : decode mP_payIf.2.1 92 = .ok (.getfield 65, 3) := by decide +kernel
theorem dP_payIf_95 : decode mP_payIf.2.1 95 = .ok (.aload_n 0, 1) := by decide +kernel
theorem dP_payIf_96 : decode mP_payIf.2.1 96 = .ok (.getfield 9, 3) := by decide +kernel
theorem dP_payIf_99 : decode mP_payIf.2.1 99 = .ok (.invokevirtual 68, 3) := by decide +kernel
theorem dP_payIf_102 : decode mP_payIf.2.1 102 = .ok (.iadd, 1) := by decide +kernel
theorem dP_payIf_103 : decode mP_payIf.2.1 103 = .ok (.invokestatic 74, 3) := by decide +kernel
theorem dP_payIf_106 : decode mP_payIf.2.1 106 = .ok (.ireturn, 1) := by decide +kernel
theorem dP_gross_0 : decode mP_gross.2.1 0 = .ok (.iload_n 3, 1) := by decide +kernel
theorem dP_gross_1 : decode mP_gross.2.1 1 = .ok (.iload_n 2, 1) := by decide +kernel
theorem dP_gross_2 : decode mP_gross.2.1 2 = .ok (.invokestatic 77, 3) := by decide +kernel
theorem dP_gross_5 : decode mP_gross.2.1 5 = .ok (.istore 5, 2) := by decide +kernel
theorem dP_gross_7 : decode mP_gross.2.1 7 = .ok (.iload_n 3, 1) := by decide +kernel
theorem dP_gross_8 : decode mP_gross.2.1 8 = .ok (.iconst 1, 1) := by decide +kernel
theorem dP_gross_9 : decode mP_gross.2.1 9 = .ok (.ishl, 1) := by decide +kernel
theorem dP_gross_10 : decode mP_gross.2.1 10 = .ok (.iload_n 3, 1) := by decide +kernel
theorem dP_gross_11 : decode mP_gross.2.1 11 = .ok (.iconst 1, 1) := by decide +kernel
theorem dP_gross_12 : decode mP_gross.2.1 12 = .ok (.ishr, 1) := by decide +kernel
theorem dP_gross_13 : decode mP_gross.2.1 13 = .ok (.ior, 1) := by decide +kernel
theorem dP_gross_14 : decode mP_gross.2.1 14 = .ok (.iload_n 2, 1) := by decide +kernel
theorem dP_gross_15 : decode mP_gross.2.1 15 = .ok (.invokestatic 77, 3) := by decide +kernel
theorem dP_gross_18 : decode mP_gross.2.1 18 = .ok (.istore 6, 2) := by decide +kernel
theorem dP_gross_20 : decode mP_gross.2.1 20 = .ok (.aload_n 0, 1) := by decide +kernel
theorem dP_gross_21 : decode mP_gross.2.1 21 = .ok (.getfield 19, 3) := by decide +kernel
theorem dP_gross_24 : decode mP_gross.2.1 24 = .ok (.aload_n 0, 1) := by decide +kernel
theorem dP_gross_25 : decode mP_gross.2.1 25 = .ok (.getfield 15, 3) := by decide +kernel
theorem dP_gross_28 : decode mP_gross.2.1 28 = .ok (.getfield 65, 3) := by decide +kernel
theorem dP_gross_31 : decode mP_gross.2.1 31 = .ok (.invokevirtual 81, 3) := by decide +kernel
theorem dP_gross_34 : decode mP_gross.2.1 34 = .ok (.istore 7, 2) := by decide +kernel
theorem dP_gross_36 : decode mP_gross.2.1 36 = .ok (.iload 7, 2) := by decide +kernel
theorem dP_gross_38 : decode mP_gross.2.1 38 = .ok (.aload_n 1, 1) := by decide +kernel
theorem dP_gross_39 : decode mP_gross.2.1 39 = .ok (.getfield 84, 3) := by decide +kernel
theorem dP_gross_42 : decode mP_gross.2.1 42 = .ok (.imul, 1) := by decide +kernel
theorem dP_gross_43 : decode mP_gross.2.1 43 = .ok (.istore 8, 2) := by decide +kernel
theorem dP_gross_45 : decode mP_gross.2.1 45 = .ok (.iload 5, 2) := by decide +kernel
theorem dP_gross_47 : decode mP_gross.2.1 47 = .ok (.ifCond .eq 8, 3) := by decide +kernel
theorem dP_gross_50 : decode mP_gross.2.1 50 = .ok (.iload 8, 2) := by decide +kernel
theorem dP_gross_52 : decode mP_gross.2.1 52 = .ok (.goto 4, 3) := by decide +kernel
theorem dP_gross_55 : decode mP_gross.2.1 55 = .ok (.iconst 0, 1) := by decide +kernel
theorem dP_gross_56 : decode mP_gross.2.1 56 = .ok (.istore 9, 2) := by decide +kernel
theorem dP_gross_58 : decode mP_gross.2.1 58 = .ok (.iload 6, 2) := by decide +kernel
theorem dP_gross_60 : decode mP_gross.2.1 60 = .ok (.ifCond .eq 10, 3) := by decide +kernel
theorem dP_gross_63 : decode mP_gross.2.1 63 = .ok (.iload 8, 2) := by decide +kernel
theorem dP_gross_65 : decode mP_gross.2.1 65 = .ok (.iconst 2, 1) := by decide +kernel
theorem dP_gross_66 : decode mP_gross.2.1 66 = .ok (.idiv, 1) := by decide +kernel
theorem dP_gross_67 : decode mP_gross.2.1 67 = .ok (.goto 4, 3) := by decide +kernel
theorem dP_gross_70 : decode mP_gross.2.1 70 = .ok (.iconst 0, 1) := by decide +kernel
theorem dP_gross_71 : decode mP_gross.2.1 71 = .ok (.istore 10, 2) := by decide +kernel
theorem dP_gross_73 : decode mP_gross.2.1 73 = .ok (.iconst 0, 1) := by decide +kernel
theorem dP_gross_74 : decode mP_gross.2.1 74 = .ok (.iload 9, 2) := by decide +kernel
theorem dP_gross_76 : decode mP_gross.2.1 76 = .ok (.iload 4, 2) := by decide +kernel
theorem dP_gross_78 : decode mP_gross.2.1 78 = .ok (.aload_n 1, 1) := by decide +kernel
theorem dP_gross_79 : decode mP_gross.2.1 79 = .ok (.getfield 38, 3) := by decide +kernel
theorem dP_gross_82 : decode mP_gross.2.1 82 = .ok (.isub, 1) := by decide +kernel
theorem dP_gross_83 : decode mP_gross.2.1 83 = .ok (.isub, 1) := by decide +kernel
theorem dP_gross_84 : decode mP_gross.2.1 84 = .ok (.invokestatic 74, 3) := by decide +kernel
theorem dP_gross_87 : decode mP_gross.2.1 87 = .ok (.istore 11, 2) := by decide +kernel
theorem dP_gross_89 : decode mP_gross.2.1 89 = .ok (.aload_n 1, 1) := by decide +kernel
theorem dP_gross_90 : decode mP_gross.2.1 90 = .ok (.getfield 44, 3) := by decide +kernel
theorem dP_gross_93 : decode mP_gross.2.1 93 = .ok (.tableswitch 127 1 6 #[39, 52, 68, 71, 97, 114], 39) := by decide +kernel
theorem dP_gross_132 : decode mP_gross.2.1 132 = .ok (.iload 5, 2) := by decide +kernel
theorem dP_gross_134 : decode mP_gross.2.1 134 = .ok (.ifCond .eq 8, 3) := by decide +kernel
theorem dP_gross_137 : decode mP_gross.2.1 137 = .ok (.iload 8, 2) := by decide +kernel
theorem dP_gross_139 : decode mP_gross.2.1 139 = .ok (.goto 5, 3) := by decide +kernel
theorem dP_gross_142 : decode mP_gross.2.1 142 = .ok (.iload 10, 2) := by decide +kernel
theorem dP_gross_144 : decode mP_gross.2.1 144 = .ok (.ireturn, 1) := by decide +kernel
theorem dP_gross_145 : decode mP_gross.2.1 145 = .ok (.iload 5, 2) := by decide +kernel
theorem dP_gross_147 : decode mP_gross.2.1 147 = .ok (.ifCond .eq 12, 3) := by decide +kernel
theorem dP_gross_150 : decode mP_gross.2.1 150 = .ok (.iload 8, 2) := by decide +kernel
theorem dP_gross_152 : decode mP_gross.2.1 152 = .ok (.iload_n 3, 1) := by decide +kernel
theorem dP_gross_153 : decode mP_gross.2.1 153 = .ok (.invokestatic 87, 3) := by decide +kernel
theorem dP_gross_156 : decode mP_gross.2.1 156 = .ok (.goto 4, 3) := by decide +kernel
theorem dP_gross_159 : decode mP_gross.2.1 159 = .ok (.iconst 0, 1) := by decide +kernel
theorem dP_gross_160 : decode mP_gross.2.1 160 = .ok (.ireturn, 1) := by decide +kernel
theorem dP_gross_161 : decode mP_gross.2.1 161 = .ok (.iload 11, 2) := by decide +kernel
theorem dP_gross_163 : decode mP_gross.2.1 163 = .ok (.ireturn, 1) := by decide +kernel
theorem dP_gross_164 : decode mP_gross.2.1 164 = .ok (.iload 5, 2) := by decide +kernel
theorem dP_gross_166 : decode mP_gross.2.1 166 = .ok (.ifCond .eq 21, 3) := by decide +kernel
theorem dP_gross_169 : decode mP_gross.2.1 169 = .ok (.iload 8, 2) := by decide +kernel
theorem dP_gross_171 : decode mP_gross.2.1 171 = .ok (.bipush 30, 2) := by decide +kernel
theorem dP_gross_173 : decode mP_gross.2.1 173 = .ok (.iadd, 1) := by decide +kernel
theorem dP_gross_174 : decode mP_gross.2.1 174 = .ok (.aload_n 0, 1) := by decide +kernel
theorem dP_gross_175 : decode mP_gross.2.1 175 = .ok (.getfield 15, 3) := by decide +kernel
theorem dP_gross_178 : decode mP_gross.2.1 178 = .ok (.getfield 53, 3) := by decide +kernel
theorem dP_gross_181 : decode mP_gross.2.1 181 = .ok (.iload_n 2, 1) := by decide +kernel
theorem dP_gross_182 : decode mP_gross.2.1 182 = .ok (.iaload, 1) := by decide +kernel
theorem dP_gross_183 : decode mP_gross.2.1 183 = .ok (.isub, 1) := by decide +kernel
theorem dP_gross_184 : decode mP_gross.2.1 184 = .ok (.goto 5, 3) := by decide +kernel
theorem dP_gross_187 : decode mP_gross.2.1 187 = .ok (.iload 10, 2) := by decide +kernel
theorem dP_gross_189 : decode mP_gross.2.1 189 = .ok (.ireturn, 1) := by decide +kernel
theorem dP_gross_190 : decode mP_gross.2.1 190 = .ok (.iload 5, 2) := by decide +kernel
theorem dP_gross_192 : decode mP_gross.2.1 192 = .ok (.ifCond .eq 12, 3) := by decide +kernel
theorem dP_gross_195 : decode mP_gross.2.1 195 = .ok (.iload 8, 2) := by decide +kernel
theorem dP_gross_197 : decode mP_gross.2.1 197 = .ok (.iload_n 3, 1) := by decide +kernel
theorem dP_gross_198 : decode mP_gross.2.1 198 = .ok (.invokestatic 87, 3) := by decide +kernel
theorem dP_gross_201 : decode mP_gross.2.1 201 = .ok (.goto 5, 3) := by decide +kernel
theorem dP_gross_204 : decode mP_gross.2.1 204 = .ok (.iload 7, 2) := by decide +kernel
theorem dP_gross_206 : decode mP_gross.2.1 206 = .ok (.ireturn, 1) := by decide +kernel
theorem dP_gross_207 : decode mP_gross.2.1 207 = .ok (.iload 11, 2) := by decide +kernel
theorem dP_gross_209 : decode mP_gross.2.1 209 = .ok (.aload_n 1, 1) := by decide +kernel
theorem dP_gross_210 : decode mP_gross.2.1 210 = .ok (.getfield 90, 3) := by decide +kernel
theorem dP_gross_213 : decode mP_gross.2.1 213 = .ok (.iload 4, 2) := by decide +kernel
theorem dP_gross_215 : decode mP_gross.2.1 215 = .ok (.iconst 3, 1) := by decide +kernel
theorem dP_gross_216 : decode mP_gross.2.1 216 = .ok (.iand, 1) := by decide +kernel
theorem dP_gross_217 : decode mP_gross.2.1 217 = .ok (.iaload, 1) := by decide +kernel
theorem dP_gross_218 : decode mP_gross.2.1 218 = .ok (.iadd, 1) := by decide +kernel
theorem dP_gross_219 : decode mP_gross.2.1 219 = .ok (.ireturn, 1) := by decide +kernel
theorem dP_gross_220 : decode mP_gross.2.1 220 = .ok (.iload 9, 2) := by decide +kernel
theorem dP_gross_222 : decode mP_gross.2.1 222 = .ok (.ireturn, 1) := by decide +kernel
theorem dP_rare_0 : decode mP_rare.2.1 0 = .ok (.iload_n 1, 1) := by decide +kernel
theorem dP_rare_1 : decode mP_rare.2.1 1 = .ok (.invokestatic 47, 3) := by decide +kernel
theorem dP_rare_4 : decode mP_rare.2.1 4 = .ok (.istore_n 2, 1) := by decide +kernel
theorem dP_rare_5 : decode mP_rare.2.1 5 = .ok (.iload_n 2, 1) := by decide +kernel
theorem dP_rare_6 : decode mP_rare.2.1 6 = .ok (.ifCond .ne 7, 3) := by decide +kernel
theorem dP_rare_9 : decode mP_rare.2.1 9 = .ok (.iconst 0, 1) := by decide +kernel
theorem dP_rare_10 : decode mP_rare.2.1 10 = .ok (.goto 8, 3) := by decide +kernel
theorem dP_rare_13 : decode mP_rare.2.1 13 = .ok (.iconst 4, 1) := by decide +kernel
theorem dP_rare_14 : decode mP_rare.2.1 14 = .ok (.iload_n 0, 1) := by decide +kernel
theorem dP_rare_15 : decode mP_rare.2.1 15 = .ok (.imul, 1) := by decide +kernel
theorem dP_rare_16 : decode mP_rare.2.1 16 = .ok (.iload_n 2, 1) := by decide +kernel
theorem dP_rare_17 : decode mP_rare.2.1 17 = .ok (.idiv, 1) := by decide +kernel
theorem dP_rare_18 : decode mP_rare.2.1 18 = .ok (.ireturn, 1) := by decide +kernel
theorem dP_sumIn_0 : decode mP_sumIn.2.1 0 = .ok (.iconst 0, 1) := by decide +kernel
theorem dP_sumIn_1 : decode mP_sumIn.2.1 1 = .ok (.istore_n 2, 1) := by decide +kernel
theorem dP_sumIn_2 : decode mP_sumIn.2.1 2 = .ok (.iconst 0, 1) := by decide +kernel
theorem dP_sumIn_3 : decode mP_sumIn.2.1 3 = .ok (.istore_n 3, 1) := by decide +kernel
theorem dP_sumIn_4 : decode mP_sumIn.2.1 4 = .ok (.iload_n 3, 1) := by decide +kernel
theorem dP_sumIn_5 : decode mP_sumIn.2.1 5 = .ok (.aload_n 0, 1) := by decide +kernel
theorem dP_sumIn_6 : decode mP_sumIn.2.1 6 = .ok (.getfield 15, 3) := by decide +kernel
theorem dP_sumIn_9 : decode mP_sumIn.2.1 9 = .ok (.getfield 93, 3) := by decide +kernel
theorem dP_sumIn_12 : decode mP_sumIn.2.1 12 = .ok (.if_icmp .ge 26, 3) := by decide +kernel
theorem dP_sumIn_15 : decode mP_sumIn.2.1 15 = .ok (.iload_n 2, 1) := by decide +kernel
theorem dP_sumIn_16 : decode mP_sumIn.2.1 16 = .ok (.aload_n 0, 1) := by decide +kernel
theorem dP_sumIn_17 : decode mP_sumIn.2.1 17 = .ok (.aload_n 0, 1) := by decide +kernel
theorem dP_sumIn_18 : decode mP_sumIn.2.1 18 = .ok (.getfield 15, 3) := by decide +kernel
theorem dP_sumIn_21 : decode mP_sumIn.2.1 21 = .ok (.getfield 96, 3) := by decide +kernel
theorem dP_sumIn_24 : decode mP_sumIn.2.1 24 = .ok (.iload_n 3, 1) := by decide +kernel
theorem dP_sumIn_25 : decode mP_sumIn.2.1 25 = .ok (.aaload, 1) := by decide +kernel
theorem dP_sumIn_26 : decode mP_sumIn.2.1 26 = .ok (.iload_n 1, 1) := by decide +kernel
theorem dP_sumIn_27 : decode mP_sumIn.2.1 27 = .ok (.invokevirtual 100, 3) := by decide +kernel
theorem dP_sumIn_30 : decode mP_sumIn.2.1 30 = .ok (.iadd, 1) := by decide +kernel
theorem dP_sumIn_31 : decode mP_sumIn.2.1 31 = .ok (.istore_n 2, 1) := by decide +kernel
theorem dP_sumIn_32 : decode mP_sumIn.2.1 32 = .ok (.iinc 3 1, 3) := by decide +kernel
theorem dP_sumIn_35 : decode mP_sumIn.2.1 35 = .ok (.goto (-31), 3) := by decide +kernel
theorem dP_sumIn_38 : decode mP_sumIn.2.1 38 = .ok (.iload_n 2, 1) := by decide +kernel
theorem dP_sumIn_39 : decode mP_sumIn.2.1 39 = .ok (.ireturn, 1) := by decide +kernel
theorem dP_weighed_0 : decode mP_weighed.2.1 0 = .ok (.iconst 0, 1) := by decide +kernel
theorem dP_weighed_1 : decode mP_weighed.2.1 1 = .ok (.istore 4, 2) := by decide +kernel
theorem dP_weighed_3 : decode mP_weighed.2.1 3 = .ok (.iconst 0, 1) := by decide +kernel
theorem dP_weighed_4 : decode mP_weighed.2.1 4 = .ok (.istore 5, 2) := by decide +kernel
theorem dP_weighed_6 : decode mP_weighed.2.1 6 = .ok (.iload 5, 2) := by decide +kernel
theorem dP_weighed_8 : decode mP_weighed.2.1 8 = .ok (.aload_n 0, 1) := by decide +kernel
theorem dP_weighed_9 : decode mP_weighed.2.1 9 = .ok (.getfield 15, 3) := by decide +kernel
theorem dP_weighed_12 : decode mP_weighed.2.1 12 = .ok (.getfield 104, 3) := by decide +kernel
theorem dP_weighed_15 : decode mP_weighed.2.1 15 = .ok (.if_icmp .ge 34, 3) := by decide +kernel
theorem dP_weighed_18 : decode mP_weighed.2.1 18 = .ok (.iload 4, 2) := by decide +kernel
theorem dP_weighed_20 : decode mP_weighed.2.1 20 = .ok (.aload_n 0, 1) := by decide +kernel
theorem dP_weighed_21 : decode mP_weighed.2.1 21 = .ok (.aload_n 1, 1) := by decide +kernel
theorem dP_weighed_22 : decode mP_weighed.2.1 22 = .ok (.iload 5, 2) := by decide +kernel
theorem dP_weighed_24 : decode mP_weighed.2.1 24 = .ok (.iload_n 2, 1) := by decide +kernel
theorem dP_weighed_25 : decode mP_weighed.2.1 25 = .ok (.iload_n 3, 1) := by decide +kernel
theorem dP_weighed_26 : decode mP_weighed.2.1 26 = .ok (.invokevirtual 34, 3) := by decide +kernel
theorem dP_weighed_29 : decode mP_weighed.2.1 29 = .ok (.aload_n 0, 1) := by decide +kernel
theorem dP_weighed_30 : decode mP_weighed.2.1 30 = .ok (.getfield 15, 3) := by decide +kernel
theorem dP_weighed_33 : decode mP_weighed.2.1 33 = .ok (.getfield 53, 3) := by decide +kernel
theorem dP_weighed_36 : decode mP_weighed.2.1 36 = .ok (.iload 5, 2) := by decide +kernel
theorem dP_weighed_38 : decode mP_weighed.2.1 38 = .ok (.iaload, 1) := by decide +kernel
theorem dP_weighed_39 : decode mP_weighed.2.1 39 = .ok (.imul, 1) := by decide +kernel
theorem dP_weighed_40 : decode mP_weighed.2.1 40 = .ok (.iadd, 1) := by decide +kernel
theorem dP_weighed_41 : decode mP_weighed.2.1 41 = .ok (.istore 4, 2) := by decide +kernel
theorem dP_weighed_43 : decode mP_weighed.2.1 43 = .ok (.iinc 5 1, 3) := by decide +kernel
theorem dP_weighed_46 : decode mP_weighed.2.1 46 = .ok (.goto (-40), 3) := by decide +kernel
theorem dP_weighed_49 : decode mP_weighed.2.1 49 = .ok (.iload 4, 2) := by decide +kernel
theorem dP_weighed_51 : decode mP_weighed.2.1 51 = .ok (.ireturn, 1) := by decide +kernel
theorem dP_weighedNow_0 : decode mP_weighedNow.2.1 0 = .ok (.aload_n 0, 1) := by decide +kernel
theorem dP_weighedNow_1 : decode mP_weighedNow.2.1 1 = .ok (.aload_n 1, 1) := by decide +kernel
theorem dP_weighedNow_2 : decode mP_weighedNow.2.1 2 = .ok (.aload_n 1, 1) := by decide +kernel
theorem dP_weighedNow_3 : decode mP_weighedNow.2.1 3 = .ok (.getfield 23, 3) := by decide +kernel
theorem dP_weighedNow_6 : decode mP_weighedNow.2.1 6 = .ok (.aload_n 0, 1) := by decide +kernel
theorem dP_weighedNow_7 : decode mP_weighedNow.2.1 7 = .ok (.getfield 15, 3) := by decide +kernel
theorem dP_weighedNow_10 : decode mP_weighedNow.2.1 10 = .ok (.getfield 29, 3) := by decide +kernel
theorem dP_weighedNow_13 : decode mP_weighedNow.2.1 13 = .ok (.invokevirtual 107, 3) := by decide +kernel
theorem dP_weighedNow_16 : decode mP_weighedNow.2.1 16 = .ok (.ireturn, 1) := by decide +kernel
theorem dP_bestSaying_0 : decode mP_bestSaying.2.1 0 = .ok (.iconst 0, 1) := by decide +kernel
theorem dP_bestSaying_1 : decode mP_bestSaying.2.1 1 = .ok (.istore_n 2, 1) := by decide +kernel
theorem dP_bestSaying_2 : decode mP_bestSaying.2.1 2 = .ok (.aload_n 0, 1) := by decide +kernel
theorem dP_bestSaying_3 : decode mP_bestSaying.2.1 3 = .ok (.aload_n 1, 1) := by decide +kernel
theorem dP_bestSaying_4 : decode mP_bestSaying.2.1 4 = .ok (.iconst 0, 1) := by decide +kernel
theorem dP_bestSaying_5 : decode mP_bestSaying.2.1 5 = .ok (.aload_n 0, 1) := by decide +kernel
theorem dP_bestSaying_6 : decode mP_bestSaying.2.1 6 = .ok (.getfield 15, 3) := by decide +kernel
theorem dP_bestSaying_9 : decode mP_bestSaying.2.1 9 = .ok (.getfield 29, 3) := by decide +kernel
theorem dP_bestSaying_12 : decode mP_bestSaying.2.1 12 = .ok (.invokevirtual 107, 3) := by decide +kernel
theorem dP_bestSaying_15 : decode mP_bestSaying.2.1 15 = .ok (.istore_n 3, 1) := by decide +kernel
theorem dP_bestSaying_16 : decode mP_bestSaying.2.1 16 = .ok (.iconst 1, 1) := by decide +kernel
theorem dP_bestSaying_17 : decode mP_bestSaying.2.1 17 = .ok (.istore 4, 2) := by decide +kernel
theorem dP_bestSaying_19 : decode mP_bestSaying.2.1 19 = .ok (.iload 4, 2) := by decide +kernel
theorem dP_bestSaying_21 : decode mP_bestSaying.2.1 21 = .ok (.aload_n 0, 1) := by decide +kernel
theorem dP_bestSaying_22 : decode mP_bestSaying.2.1 22 = .ok (.getfield 15, 3) := by decide +kernel
theorem dP_bestSaying_25 : decode mP_bestSaying.2.1 25 = .ok (.invokevirtual 111, 3) := by decide +kernel
theorem dP_bestSaying_28 : decode mP_bestSaying.2.1 28 = .ok (.if_icmp .gt 37, 3) := by decide +kernel
theorem dP_bestSaying_31 : decode mP_bestSaying.2.1 31 = .ok (.aload_n 0, 1) := by decide +kernel
theorem dP_bestSaying_32 : decode mP_bestSaying.2.1 32 = .ok (.aload_n 1, 1) := by decide +kernel
theorem dP_bestSaying_33 : decode mP_bestSaying.2.1 33 = .ok (.iload 4, 2) := by decide +kernel
theorem dP_bestSaying_35 : decode mP_bestSaying.2.1 35 = .ok (.aload_n 0, 1) := by decide +kernel
theorem dP_bestSaying_36 : decode mP_bestSaying.2.1 36 = .ok (.getfield 15, 3) := by decide +kernel
theorem dP_bestSaying_39 : decode mP_bestSaying.2.1 39 = .ok (.getfield 29, 3) := by decide +kernel
theorem dP_bestSaying_42 : decode mP_bestSaying.2.1 42 = .ok (.invokevirtual 107, 3) := by decide +kernel
theorem dP_bestSaying_45 : decode mP_bestSaying.2.1 45 = .ok (.istore 5, 2) := by decide +kernel
theorem dP_bestSaying_47 : decode mP_bestSaying.2.1 47 = .ok (.iload 5, 2) := by decide +kernel
theorem dP_bestSaying_49 : decode mP_bestSaying.2.1 49 = .ok (.iload_n 3, 1) := by decide +kernel
theorem dP_bestSaying_50 : decode mP_bestSaying.2.1 50 = .ok (.if_icmp .le 9, 3) := by decide +kernel
theorem dP_bestSaying_53 : decode mP_bestSaying.2.1 53 = .ok (.iload 5, 2) := by decide +kernel
theorem dP_bestSaying_55 : decode mP_bestSaying.2.1 55 = .ok (.istore_n 3, 1) := by decide +kernel
theorem dP_bestSaying_56 : decode mP_bestSaying.2.1 56 = .ok (.iload 4, 2) := by decide +kernel
theorem dP_bestSaying_58 : decode mP_bestSaying.2.1 58 = .ok (.istore_n 2, 1) := by decide +kernel
theorem dP_bestSaying_59 : decode mP_bestSaying.2.1 59 = .ok (.iinc 4 1, 3) := by decide +kernel
theorem dP_bestSaying_62 : decode mP_bestSaying.2.1 62 = .ok (.goto (-43), 3) := by decide +kernel
theorem dP_bestSaying_65 : decode mP_bestSaying.2.1 65 = .ok (.iload_n 2, 1) := by decide +kernel
theorem dP_bestSaying_66 : decode mP_bestSaying.2.1 66 = .ok (.ireturn, 1) := by decide +kernel
theorem dP_bestWait_0 : decode mP_bestWait.2.1 0 = .ok (.iconst 0, 1) := by decide +kernel
theorem dP_bestWait_1 : decode mP_bestWait.2.1 1 = .ok (.istore_n 3, 1) := by decide +kernel
theorem dP_bestWait_2 : decode mP_bestWait.2.1 2 = .ok (.aload_n 0, 1) := by decide +kernel
theorem dP_bestWait_3 : decode mP_bestWait.2.1 3 = .ok (.aload_n 1, 1) := by decide +kernel
theorem dP_bestWait_4 : decode mP_bestWait.2.1 4 = .ok (.invokevirtual 115, 3) := by decide +kernel
theorem dP_bestWait_7 : decode mP_bestWait.2.1 7 = .ok (.istore 4, 2) := by decide +kernel
theorem dP_bestWait_9 : decode mP_bestWait.2.1 9 = .ok (.iconst 1, 1) := by decide +kernel
theorem dP_bestWait_10 : decode mP_bestWait.2.1 10 = .ok (.istore 5, 2) := by decide +kernel
theorem dP_bestWait_12 : decode mP_bestWait.2.1 12 = .ok (.iload 5, 2) := by decide +kernel
theorem dP_bestWait_14 : decode mP_bestWait.2.1 14 = .ok (.iload_n 2, 1) := by decide +kernel
theorem dP_bestWait_15 : decode mP_bestWait.2.1 15 = .ok (.if_icmp .gt 44, 3) := by decide +kernel
theorem dP_bestWait_18 : decode mP_bestWait.2.1 18 = .ok (.aload_n 0, 1) := by decide +kernel
theorem dP_bestWait_19 : decode mP_bestWait.2.1 19 = .ok (.aload_n 1, 1) := by decide +kernel
theorem dP_bestWait_20 : decode mP_bestWait.2.1 20 = .ok (.aload_n 1, 1) := by decide +kernel
theorem dP_bestWait_21 : decode mP_bestWait.2.1 21 = .ok (.getfield 23, 3) := by decide +kernel
theorem dP_bestWait_24 : decode mP_bestWait.2.1 24 = .ok (.aload_n 0, 1) := by decide +kernel
theorem dP_bestWait_25 : decode mP_bestWait.2.1 25 = .ok (.getfield 15, 3) := by decide +kernel
theorem dP_bestWait_28 : decode mP_bestWait.2.1 28 = .ok (.getfield 29, 3) := by decide +kernel
theorem dP_bestWait_31 : decode mP_bestWait.2.1 31 = .ok (.iload 5, 2) := by decide +kernel
theorem dP_bestWait_33 : decode mP_bestWait.2.1 33 = .ok (.iadd, 1) := by decide +kernel
theorem dP_bestWait_34 : decode mP_bestWait.2.1 34 = .ok (.invokevirtual 107, 3) := by decide +kernel
theorem dP_bestWait_37 : decode mP_bestWait.2.1 37 = .ok (.istore 6, 2) := by decide +kernel
theorem dP_bestWait_39 : decode mP_bestWait.2.1 39 = .ok (.iload 6, 2) := by decide +kernel
theorem dP_bestWait_41 : decode mP_bestWait.2.1 41 = .ok (.iload 4, 2) := by decide +kernel
theorem dP_bestWait_43 : decode mP_bestWait.2.1 43 = .ok (.if_icmp .le 10, 3) := by decide +kernel
theorem dP_bestWait_46 : decode mP_bestWait.2.1 46 = .ok (.iload 6, 2) := by decide +kernel
theorem dP_bestWait_48 : decode mP_bestWait.2.1 48 = .ok (.istore 4, 2) := by decide +kernel
theorem dP_bestWait_50 : decode mP_bestWait.2.1 50 = .ok (.iload 5, 2) := by decide +kernel
theorem dP_bestWait_52 : decode mP_bestWait.2.1 52 = .ok (.istore_n 3, 1) := by decide +kernel
theorem dP_bestWait_53 : decode mP_bestWait.2.1 53 = .ok (.iinc 5 1, 3) := by decide +kernel
theorem dP_bestWait_56 : decode mP_bestWait.2.1 56 = .ok (.goto (-44), 3) := by decide +kernel
theorem dP_bestWait_59 : decode mP_bestWait.2.1 59 = .ok (.iload_n 3, 1) := by decide +kernel
theorem dP_bestWait_60 : decode mP_bestWait.2.1 60 = .ok (.ireturn, 1) := by decide +kernel
theorem dP_belowMean_0 : decode mP_belowMean.2.1 0 = .ok (.iconst 0, 1) := by decide +kernel
theorem dP_belowMean_1 : decode mP_belowMean.2.1 1 = .ok (.istore_n 1, 1) := by decide +kernel
theorem dP_belowMean_2 : decode mP_belowMean.2.1 2 = .ok (.aload_n 0, 1) := by decide +kernel
theorem dP_belowMean_3 : decode mP_belowMean.2.1 3 = .ok (.getfield 15, 3) := by decide +kernel
theorem dP_belowMean_6 : decode mP_belowMean.2.1 6 = .ok (.aload_n 0, 1) := by decide +kernel
theorem dP_belowMean_7 : decode mP_belowMean.2.1 7 = .ok (.getfield 15, 3) := by decide +kernel
theorem dP_belowMean_10 : decode mP_belowMean.2.1 10 = .ok (.invokevirtual 111, 3) := by decide +kernel
theorem dP_belowMean_13 : decode mP_belowMean.2.1 13 = .ok (.invokevirtual 119, 3) := by decide +kernel
theorem dP_belowMean_16 : decode mP_belowMean.2.1 16 = .ok (.istore_n 2, 1) := by decide +kernel
theorem dP_belowMean_17 : decode mP_belowMean.2.1 17 = .ok (.iconst 0, 1) := by decide +kernel
theorem dP_belowMean_18 : decode mP_belowMean.2.1 18 = .ok (.istore_n 3, 1) := by decide +kernel
theorem dP_belowMean_19 : decode mP_belowMean.2.1 19 = .ok (.iload_n 3, 1) := by decide +kernel
theorem dP_belowMean_20 : decode mP_belowMean.2.1 20 = .ok (.aload_n 0, 1) := by decide +kernel
theorem dP_belowMean_21 : decode mP_belowMean.2.1 21 = .ok (.getfield 15, 3) := by decide +kernel
theorem dP_belowMean_24 : decode mP_belowMean.2.1 24 = .ok (.getfield 93, 3) := by decide +kernel
theorem dP_belowMean_27 : decode mP_belowMean.2.1 27 = .ok (.if_icmp .ge 42, 3) := by decide +kernel
theorem dP_belowMean_30 : decode mP_belowMean.2.1 30 = .ok (.aload_n 0, 1) := by decide +kernel
theorem dP_belowMean_31 : decode mP_belowMean.2.1 31 = .ok (.getfield 15, 3) := by decide +kernel
theorem dP_belowMean_34 : decode mP_belowMean.2.1 34 = .ok (.getfield 96, 3) := by decide +kernel
theorem dP_belowMean_37 : decode mP_belowMean.2.1 37 = .ok (.iload_n 3, 1) := by decide +kernel
theorem dP_belowMean_38 : decode mP_belowMean.2.1 38 = .ok (.aaload, 1) := by decide +kernel
theorem dP_belowMean_39 : decode mP_belowMean.2.1 39 = .ok (.astore 4, 2) := by decide +kernel
theorem dP_belowMean_41 : decode mP_belowMean.2.1 41 = .ok (.aload 4, 2) := by decide +kernel
theorem dP_belowMean_43 : decode mP_belowMean.2.1 43 = .ok (.getfield 122, 3) := by decide +kernel
theorem dP_belowMean_46 : decode mP_belowMean.2.1 46 = .ok (.iload_n 2, 1) := by decide +kernel
theorem dP_belowMean_47 : decode mP_belowMean.2.1 47 = .ok (.imul, 1) := by decide +kernel
theorem dP_belowMean_48 : decode mP_belowMean.2.1 48 = .ok (.aload_n 0, 1) := by decide +kernel
theorem dP_belowMean_49 : decode mP_belowMean.2.1 49 = .ok (.aload 4, 2) := by decide +kernel
theorem dP_belowMean_51 : decode mP_belowMean.2.1 51 = .ok (.invokevirtual 115, 3) := by decide +kernel
theorem dP_belowMean_54 : decode mP_belowMean.2.1 54 = .ok (.if_icmp .ge 9, 3) := by decide +kernel
theorem dP_belowMean_57 : decode mP_belowMean.2.1 57 = .ok (.iload_n 1, 1) := by decide +kernel
theorem dP_belowMean_58 : decode mP_belowMean.2.1 58 = .ok (.iconst 1, 1) := by decide +kernel
theorem dP_belowMean_59 : decode mP_belowMean.2.1 59 = .ok (.iload_n 3, 1) := by decide +kernel
theorem dP_belowMean_60 : decode mP_belowMean.2.1 60 = .ok (.ishl, 1) := by decide +kernel
theorem dP_belowMean_61 : decode mP_belowMean.2.1 61 = .ok (.ior, 1) := by decide +kernel
theorem dP_belowMean_62 : decode mP_belowMean.2.1 62 = .ok (.istore_n 1, 1) := by decide +kernel
theorem dP_belowMean_63 : decode mP_belowMean.2.1 63 = .ok (.iinc 3 1, 3) := by decide +kernel
theorem dP_belowMean_66 : decode mP_belowMean.2.1 66 = .ok (.goto (-47), 3) := by decide +kernel
theorem dP_belowMean_69 : decode mP_belowMean.2.1 69 = .ok (.iload_n 1, 1) := by decide +kernel
theorem dP_belowMean_70 : decode mP_belowMean.2.1 70 = .ok (.ireturn, 1) := by decide +kernel
theorem dP_payingAtLeast_0 : decode mP_payingAtLeast.2.1 0 = .ok (.iconst 0, 1) := by decide +kernel
theorem dP_payingAtLeast_1 : decode mP_payingAtLeast.2.1 1 = .ok (.istore_n 2, 1) := by decide +kernel
theorem dP_payingAtLeast_2 : decode mP_payingAtLeast.2.1 2 = .ok (.iconst 0, 1) := by decide +kernel
theorem dP_payingAtLeast_3 : decode mP_payingAtLeast.2.1 3 = .ok (.istore_n 3, 1) := by decide +kernel
theorem dP_payingAtLeast_4 : decode mP_payingAtLeast.2.1 4 = .ok (.iload_n 3, 1) := by decide +kernel
theorem dP_payingAtLeast_5 : decode mP_payingAtLeast.2.1 5 = .ok (.aload_n 0, 1) := by decide +kernel
theorem dP_payingAtLeast_6 : decode mP_payingAtLeast.2.1 6 = .ok (.getfield 15, 3) := by decide +kernel
theorem dP_payingAtLeast_9 : decode mP_payingAtLeast.2.1 9 = .ok (.getfield 93, 3) := by decide +kernel
theorem dP_payingAtLeast_12 : decode mP_payingAtLeast.2.1 12 = .ok (.if_icmp .ge 29, 3) := by decide +kernel
theorem dP_payingAtLeast_15 : decode mP_payingAtLeast.2.1 15 = .ok (.aload_n 0, 1) := by decide +kernel
theorem dP_payingAtLeast_16 : decode mP_payingAtLeast.2.1 16 = .ok (.aload_n 0, 1) := by decide +kernel
theorem dP_payingAtLeast_17 : decode mP_payingAtLeast.2.1 17 = .ok (.getfield 15, 3) := by decide +kernel
theorem dP_payingAtLeast_20 : decode mP_payingAtLeast.2.1 20 = .ok (.getfield 96, 3) := by decide +kernel
theorem dP_payingAtLeast_23 : decode mP_payingAtLeast.2.1 23 = .ok (.iload_n 3, 1) := by decide +kernel
theorem dP_payingAtLeast_24 : decode mP_payingAtLeast.2.1 24 = .ok (.aaload, 1) := by decide +kernel
theorem dP_payingAtLeast_25 : decode mP_payingAtLeast.2.1 25 = .ok (.iload_n 1, 1) := by decide +kernel
theorem dP_payingAtLeast_26 : decode mP_payingAtLeast.2.1 26 = .ok (.invokevirtual 125, 3) := by decide +kernel
theorem dP_payingAtLeast_29 : decode mP_payingAtLeast.2.1 29 = .ok (.ifCond .eq 6, 3) := by decide +kernel
theorem dP_payingAtLeast_32 : decode mP_payingAtLeast.2.1 32 = .ok (.iinc 2 1, 3) := by decide +kernel
theorem dP_payingAtLeast_35 : decode mP_payingAtLeast.2.1 35 = .ok (.iinc 3 1, 3) := by decide +kernel
theorem dP_payingAtLeast_38 : decode mP_payingAtLeast.2.1 38 = .ok (.goto (-34), 3) := by decide +kernel
theorem dP_payingAtLeast_41 : decode mP_payingAtLeast.2.1 41 = .ok (.iload_n 2, 1) := by decide +kernel
theorem dP_payingAtLeast_42 : decode mP_payingAtLeast.2.1 42 = .ok (.ireturn, 1) := by decide +kernel
theorem dP_paysAtLeast_0 : decode mP_paysAtLeast.2.1 0 = .ok (.iconst 0, 1) := by decide +kernel
theorem dP_paysAtLeast_1 : decode mP_paysAtLeast.2.1 1 = .ok (.istore_n 3, 1) := by decide +kernel
theorem dP_paysAtLeast_2 : decode mP_paysAtLeast.2.1 2 = .ok (.iload_n 3, 1) := by decide +kernel
theorem dP_paysAtLeast_3 : decode mP_paysAtLeast.2.1 3 = .ok (.aload_n 0, 1) := by decide +kernel
theorem dP_paysAtLeast_4 : decode mP_paysAtLeast.2.1 4 = .ok (.getfield 15, 3) := by decide +kernel
theorem dP_paysAtLeast_7 : decode mP_paysAtLeast.2.1 7 = .ok (.getfield 104, 3) := by decide +kernel
theorem dP_paysAtLeast_10 : decode mP_paysAtLeast.2.1 10 = .ok (.if_icmp .ge 21, 3) := by decide +kernel
theorem dP_paysAtLeast_13 : decode mP_paysAtLeast.2.1 13 = .ok (.aload_n 0, 1) := by decide +kernel
theorem dP_paysAtLeast_14 : decode mP_paysAtLeast.2.1 14 = .ok (.aload_n 1, 1) := by decide +kernel
theorem dP_paysAtLeast_15 : decode mP_paysAtLeast.2.1 15 = .ok (.iload_n 3, 1) := by decide +kernel
theorem dP_paysAtLeast_16 : decode mP_paysAtLeast.2.1 16 = .ok (.invokevirtual 100, 3) := by decide +kernel
theorem dP_paysAtLeast_19 : decode mP_paysAtLeast.2.1 19 = .ok (.iload_n 2, 1) := by decide +kernel
theorem dP_paysAtLeast_20 : decode mP_paysAtLeast.2.1 20 = .ok (.if_icmp .lt 5, 3) := by decide +kernel
theorem dP_paysAtLeast_23 : decode mP_paysAtLeast.2.1 23 = .ok (.iconst 1, 1) := by decide +kernel
theorem dP_paysAtLeast_24 : decode mP_paysAtLeast.2.1 24 = .ok (.ireturn, 1) := by decide +kernel
theorem dP_paysAtLeast_25 : decode mP_paysAtLeast.2.1 25 = .ok (.iinc 3 1, 3) := by decide +kernel
theorem dP_paysAtLeast_28 : decode mP_paysAtLeast.2.1 28 = .ok (.goto (-26), 3) := by decide +kernel
theorem dP_paysAtLeast_31 : decode mP_paysAtLeast.2.1 31 = .ok (.iconst 0, 1) := by decide +kernel
theorem dP_paysAtLeast_32 : decode mP_paysAtLeast.2.1 32 = .ok (.ireturn, 1) := by decide +kernel
theorem dP_firstOtherwise_0 : decode mP_firstOtherwise.2.1 0 = .ok (.aload_n 0, 1) := by decide +kernel
theorem dP_firstOtherwise_1 : decode mP_firstOtherwise.2.1 1 = .ok (.getfield 15, 3) := by decide +kernel
theorem dP_firstOtherwise_4 : decode mP_firstOtherwise.2.1 4 = .ok (.getfield 129, 3) := by decide +kernel
theorem dP_firstOtherwise_7 : decode mP_firstOtherwise.2.1 7 = .ok (.astore_n 1, 1) := by decide +kernel
theorem dP_firstOtherwise_8 : decode mP_firstOtherwise.2.1 8 = .ok (.iconst 0, 1) := by decide +kernel
theorem dP_firstOtherwise_9 : decode mP_firstOtherwise.2.1 9 = .ok (.istore_n 2, 1) := by decide +kernel
theorem dP_firstOtherwise_10 : decode mP_firstOtherwise.2.1 10 = .ok (.iload_n 2, 1) := by decide +kernel
theorem dP_firstOtherwise_11 : decode mP_firstOtherwise.2.1 11 = .ok (.aload_n 1, 1) := by decide +kernel
theorem dP_firstOtherwise_12 : decode mP_firstOtherwise.2.1 12 = .ok (.getfield 133, 3) := by decide +kernel
theorem dP_firstOtherwise_15 : decode mP_firstOtherwise.2.1 15 = .ok (.if_icmp .ge 65, 3) := by decide +kernel
theorem dP_firstOtherwise_18 : decode mP_firstOtherwise.2.1 18 = .ok (.aload_n 0, 1) := by decide +kernel
theorem dP_firstOtherwise_19 : decode mP_firstOtherwise.2.1 19 = .ok (.getfield 15, 3) := by decide +kernel
theorem dP_firstOtherwise_22 : decode mP_firstOtherwise.2.1 22 = .ok (.aload_n 1, 1) := by decide +kernel
theorem dP_firstOtherwise_23 : decode mP_firstOtherwise.2.1 23 = .ok (.iload_n 2, 1) := by decide +kernel
theorem dP_firstOtherwise_24 : decode mP_firstOtherwise.2.1 24 = .ok (.iconst 0, 1) := by decide +kernel
theorem dP_firstOtherwise_25 : decode mP_firstOtherwise.2.1 25 = .ok (.invokevirtual 138, 3) := by decide +kernel
theorem dP_firstOtherwise_28 : decode mP_firstOtherwise.2.1 28 = .ok (.invokevirtual 141, 3) := by decide +kernel
theorem dP_firstOtherwise_31 : decode mP_firstOtherwise.2.1 31 = .ok (.astore_n 3, 1) := by decide +kernel
theorem dP_firstOtherwise_32 : decode mP_firstOtherwise.2.1 32 = .ok (.aload_n 1, 1) := by decide +kernel
theorem dP_firstOtherwise_33 : decode mP_firstOtherwise.2.1 33 = .ok (.iload_n 2, 1) := by decide +kernel
theorem dP_firstOtherwise_34 : decode mP_firstOtherwise.2.1 34 = .ok (.iconst 1, 1) := by decide +kernel
theorem dP_firstOtherwise_35 : decode mP_firstOtherwise.2.1 35 = .ok (.invokevirtual 138, 3) := by decide +kernel
theorem dP_firstOtherwise_38 : decode mP_firstOtherwise.2.1 38 = .ok (.istore 4, 2) := by decide +kernel
theorem dP_firstOtherwise_40 : decode mP_firstOtherwise.2.1 40 = .ok (.aload_n 3, 1) := by decide +kernel
theorem dP_firstOtherwise_41 : decode mP_firstOtherwise.2.1 41 = .ok (.ifnull 33, 3) := by decide +kernel
theorem dP_firstOtherwise_44 : decode mP_firstOtherwise.2.1 44 = .ok (.aload_n 0, 1) := by decide +kernel
theorem dP_firstOtherwise_45 : decode mP_firstOtherwise.2.1 45 = .ok (.getfield 15, 3) := by decide +kernel
theorem dP_firstOtherwise_48 : decode mP_firstOtherwise.2.1 48 = .ok (.iload 4, 2) := by decide +kernel
theorem dP_firstOtherwise_50 : decode mP_firstOtherwise.2.1 50 = .ok (.invokevirtual 145, 3) := by decide +kernel
theorem dP_firstOtherwise_53 : decode mP_firstOtherwise.2.1 53 = .ok (.ifCond .eq 21, 3) := by decide +kernel
theorem dP_firstOtherwise_56 : decode mP_firstOtherwise.2.1 56 = .ok (.aload_n 0, 1) := by decide +kernel
theorem dP_firstOtherwise_57 : decode mP_firstOtherwise.2.1 57 = .ok (.aload_n 3, 1) := by decide +kernel
theorem dP_firstOtherwise_58 : decode mP_firstOtherwise.2.1 58 = .ok (.iload 4, 2) := by decide +kernel
theorem dP_firstOtherwise_60 : decode mP_firstOtherwise.2.1 60 = .ok (.invokevirtual 100, 3) := by decide +kernel
theorem dP_firstOtherwise_63 : decode mP_firstOtherwise.2.1 63 = .ok (.aload_n 1, 1) := by decide +kernel
theorem dP_firstOtherwise_64 : decode mP_firstOtherwise.2.1 64 = .ok (.iload_n 2, 1) := by decide +kernel
theorem dP_firstOtherwise_65 : decode mP_firstOtherwise.2.1 65 = .ok (.iconst 2, 1) := by decide +kernel
theorem dP_firstOtherwise_66 : decode mP_firstOtherwise.2.1 66 = .ok (.invokevirtual 138, 3) := by decide +kernel
theorem dP_firstOtherwise_69 : decode mP_firstOtherwise.2.1 69 = .ok (.if_icmp .eq 5, 3) := by decide +kernel
theorem dP_firstOtherwise_72 : decode mP_firstOtherwise.2.1 72 = .ok (.iload_n 2, 1) := by decide +kernel
theorem dP_firstOtherwise_73 : decode mP_firstOtherwise.2.1 73 = .ok (.ireturn, 1) := by decide +kernel
theorem dP_firstOtherwise_74 : decode mP_firstOtherwise.2.1 74 = .ok (.iinc 2 1, 3) := by decide +kernel
theorem dP_firstOtherwise_77 : decode mP_firstOtherwise.2.1 77 = .ok (.goto (-67), 3) := by decide +kernel
theorem dP_firstOtherwise_80 : decode mP_firstOtherwise.2.1 80 = .ok (.bipush (-5), 2) := by decide +kernel
theorem dP_firstOtherwise_82 : decode mP_firstOtherwise.2.1 82 = .ok (.ireturn, 1) := by decide +kernel
theorem dW_init_0 : decode mW_init.2.1 0 = .ok (.aload_n 0, 1) := by decide +kernel
theorem dW_init_1 : decode mW_init.2.1 1 = .ok (.invokespecial 3, 3) := by decide +kernel
theorem dW_init_4 : decode mW_init.2.1 4 = .ok (.aload_n 0, 1) := by decide +kernel
theorem dW_init_5 : decode mW_init.2.1 5 = .ok (.bipush 24, 2) := by decide +kernel
theorem dW_init_7 : decode mW_init.2.1 7 = .ok (.newarray .int, 2) := by decide +kernel
theorem dW_init_9 : decode mW_init.2.1 9 = .ok (.putfield 11, 3) := by decide +kernel
theorem dW_init_12 : decode mW_init.2.1 12 = .ok (.return_, 1) := by decide +kernel
theorem dW_empty_0 : decode mW_empty.2.1 0 = .ok (.aload_n 0, 1) := by decide +kernel
theorem dW_empty_1 : decode mW_empty.2.1 1 = .ok (.iconst 0, 1) := by decide +kernel
theorem dW_empty_2 : decode mW_empty.2.1 2 = .ok (.putfield 15, 3) := by decide +kernel
theorem dW_empty_5 : decode mW_empty.2.1 5 = .ok (.aload_n 0, 1) := by decide +kernel
theorem dW_empty_6 : decode mW_empty.2.1 6 = .ok (.getfield 15, 3) := by decide +kernel
theorem dW_empty_9 : decode mW_empty.2.1 9 = .ok (.ireturn, 1) := by decide +kernel
theorem dW_add_0 : decode mW_add.2.1 0 = .ok (.aload_n 0, 1) := by decide +kernel
theorem dW_add_1 : decode mW_add.2.1 1 = .ok (.getfield 15, 3) := by decide +kernel
theorem dW_add_4 : decode mW_add.2.1 4 = .ok (.bipush 8, 2) := by decide +kernel
theorem dW_add_6 : decode mW_add.2.1 6 = .ok (.if_icmp .lt 6, 3) := by decide +kernel
theorem dW_add_9 : decode mW_add.2.1 9 = .ok (.bipush (-4), 2) := by decide +kernel
theorem dW_add_11 : decode mW_add.2.1 11 = .ok (.ireturn, 1) := by decide +kernel
theorem dW_add_12 : decode mW_add.2.1 12 = .ok (.aload_n 0, 1) := by decide +kernel
theorem dW_add_13 : decode mW_add.2.1 13 = .ok (.getfield 15, 3) := by decide +kernel
theorem dW_add_16 : decode mW_add.2.1 16 = .ok (.iconst 3, 1) := by decide +kernel
theorem dW_add_17 : decode mW_add.2.1 17 = .ok (.imul, 1) := by decide +kernel
theorem dW_add_18 : decode mW_add.2.1 18 = .ok (.istore 4, 2) := by decide +kernel
theorem dW_add_20 : decode mW_add.2.1 20 = .ok (.aload_n 0, 1) := by decide +kernel
theorem dW_add_21 : decode mW_add.2.1 21 = .ok (.getfield 11, 3) := by decide +kernel
theorem dW_add_24 : decode mW_add.2.1 24 = .ok (.iload 4, 2) := by decide +kernel
theorem dW_add_26 : decode mW_add.2.1 26 = .ok (.iload_n 1, 1) := by decide +kernel
theorem dW_add_27 : decode mW_add.2.1 27 = .ok (.iastore, 1) := by decide +kernel
theorem dW_add_28 : decode mW_add.2.1 28 = .ok (.aload_n 0, 1) := by decide +kernel
theorem dW_add_29 : decode mW_add.2.1 29 = .ok (.getfield 11, 3) := by decide +kernel
theorem dW_add_32 : decode mW_add.2.1 32 = .ok (.iload 4, 2) := by decide +kernel
theorem dW_add_34 : decode mW_add.2.1 34 = .ok (.iconst 1, 1) := by decide +kernel
theorem dW_add_35 : decode mW_add.2.1 35 = .ok (.iadd, 1) := by decide +kernel
theorem dW_add_36 : decode mW_add.2.1 36 = .ok (.iload_n 2, 1) := by decide +kernel
theorem dW_add_37 : decode mW_add.2.1 37 = .ok (.iastore, 1) := by decide +kernel
theorem dW_add_38 : decode mW_add.2.1 38 = .ok (.aload_n 0, 1) := by decide +kernel
theorem dW_add_39 : decode mW_add.2.1 39 = .ok (.getfield 11, 3) := by decide +kernel
theorem dW_add_42 : decode mW_add.2.1 42 = .ok (.iload 4, 2) := by decide +kernel
theorem dW_add_44 : decode mW_add.2.1 44 = .ok (.iconst 2, 1) := by decide +kernel
theorem dW_add_45 : decode mW_add.2.1 45 = .ok (.iadd, 1) := by decide +kernel
theorem dW_add_46 : decode mW_add.2.1 46 = .ok (.iload_n 3, 1) := by decide +kernel
theorem dW_add_47 : decode mW_add.2.1 47 = .ok (.iastore, 1) := by decide +kernel
theorem dW_add_48 : decode mW_add.2.1 48 = .ok (.aload_n 0, 1) := by decide +kernel
theorem dW_add_49 : decode mW_add.2.1 49 = .ok (.dup, 1) := by decide +kernel
theorem dW_add_50 : decode mW_add.2.1 50 = .ok (.getfield 15, 3) := by decide +kernel
theorem dW_add_53 : decode mW_add.2.1 53 = .ok (.iconst 1, 1) := by decide +kernel
theorem dW_add_54 : decode mW_add.2.1 54 = .ok (.iadd, 1) := by decide +kernel
theorem dW_add_55 : decode mW_add.2.1 55 = .ok (.putfield 15, 3) := by decide +kernel
theorem dW_add_58 : decode mW_add.2.1 58 = .ok (.aload_n 0, 1) := by decide +kernel
theorem dW_add_59 : decode mW_add.2.1 59 = .ok (.getfield 15, 3) := by decide +kernel
theorem dW_add_62 : decode mW_add.2.1 62 = .ok (.ireturn, 1) := by decide +kernel
theorem dW_cell_0 : decode mW_cell.2.1 0 = .ok (.iload_n 1, 1) := by decide +kernel
theorem dW_cell_1 : decode mW_cell.2.1 1 = .ok (.iconst 3, 1) := by decide +kernel
theorem dW_cell_2 : decode mW_cell.2.1 2 = .ok (.imul, 1) := by decide +kernel
theorem dW_cell_3 : decode mW_cell.2.1 3 = .ok (.iload_n 2, 1) := by decide +kernel
theorem dW_cell_4 : decode mW_cell.2.1 4 = .ok (.iadd, 1) := by decide +kernel
theorem dW_cell_5 : decode mW_cell.2.1 5 = .ok (.istore_n 3, 1) := by decide +kernel
theorem dW_cell_6 : decode mW_cell.2.1 6 = .ok (.iload_n 3, 1) := by decide +kernel
theorem dW_cell_7 : decode mW_cell.2.1 7 = .ok (.ifCond .lt 21, 3) := by decide +kernel
theorem dW_cell_10 : decode mW_cell.2.1 10 = .ok (.iload_n 3, 1) := by decide +kernel
theorem dW_cell_11 : decode mW_cell.2.1 11 = .ok (.aload_n 0, 1) := by decide +kernel
theorem dW_cell_12 : decode mW_cell.2.1 12 = .ok (.getfield 11, 3) := by decide +kernel
theorem dW_cell_15 : decode mW_cell.2.1 15 = .ok (.arraylength, 1) := by decide +kernel
theorem dW_cell_16 : decode mW_cell.2.1 16 = .ok (.if_icmp .ge 12, 3) := by decide +kernel
theorem dW_cell_19 : decode mW_cell.2.1 19 = .ok (.aload_n 0, 1) := by decide +kernel
theorem dW_cell_20 : decode mW_cell.2.1 20 = .ok (.getfield 11, 3) := by decide +kernel
theorem dW_cell_23 : decode mW_cell.2.1 23 = .ok (.iload_n 3, 1) := by decide +kernel
theorem dW_cell_24 : decode mW_cell.2.1 24 = .ok (.iaload, 1) := by decide +kernel
theorem dW_cell_25 : decode mW_cell.2.1 25 = .ok (.goto 4, 3) := by decide +kernel
theorem dW_cell_28 : decode mW_cell.2.1 28 = .ok (.iconst 0, 1) := by decide +kernel
theorem dW_cell_29 : decode mW_cell.2.1 29 = .ok (.ireturn, 1) := by decide +kernel
theorem dW_becomeAs_0 : decode mW_becomeAs.2.1 0 = .ok (.aload_n 0, 1) := by decide +kernel
theorem dW_becomeAs_1 : decode mW_becomeAs.2.1 1 = .ok (.aload_n 1, 1) := by decide +kernel
theorem dW_becomeAs_2 : decode mW_becomeAs.2.1 2 = .ok (.getfield 15, 3) := by decide +kernel
theorem dW_becomeAs_5 : decode mW_becomeAs.2.1 5 = .ok (.putfield 15, 3) := by decide +kernel
theorem dW_becomeAs_8 : decode mW_becomeAs.2.1 8 = .ok (.aload_n 1, 1) := by decide +kernel
theorem dW_becomeAs_9 : decode mW_becomeAs.2.1 9 = .ok (.getfield 11, 3) := by decide +kernel
theorem dW_becomeAs_12 : decode mW_becomeAs.2.1 12 = .ok (.iconst 0, 1) := by decide +kernel
theorem dW_becomeAs_13 : decode mW_becomeAs.2.1 13 = .ok (.aload_n 0, 1) := by decide +kernel
theorem dW_becomeAs_14 : decode mW_becomeAs.2.1 14 = .ok (.getfield 11, 3) := by decide +kernel
theorem dW_becomeAs_17 : decode mW_becomeAs.2.1 17 = .ok (.iconst 0, 1) := by decide +kernel
theorem dW_becomeAs_18 : decode mW_becomeAs.2.1 18 = .ok (.aload_n 0, 1) := by decide +kernel
theorem dW_becomeAs_19 : decode mW_becomeAs.2.1 19 = .ok (.getfield 11, 3) := by decide +kernel
theorem dW_becomeAs_22 : decode mW_becomeAs.2.1 22 = .ok (.arraylength, 1) := by decide +kernel
theorem dW_becomeAs_23 : decode mW_becomeAs.2.1 23 = .ok (.invokestatic 19, 3) := by decide +kernel
theorem dW_becomeAs_26 : decode mW_becomeAs.2.1 26 = .ok (.return_, 1) := by decide +kernel
theorem dS_init_0 : decode mS_init.2.1 0 = .ok (.aload_n 0, 1) := by decide +kernel
theorem dS_init_1 : decode mS_init.2.1 1 = .ok (.invokespecial 3, 3) := by decide +kernel
theorem dS_init_4 : decode mS_init.2.1 4 = .ok (.aload_n 0, 1) := by decide +kernel
theorem dS_init_5 : decode mS_init.2.1 5 = .ok (.bipush 48, 2) := by decide +kernel
theorem dS_init_7 : decode mS_init.2.1 7 = .ok (.newarray .int, 2) := by decide +kernel
theorem dS_init_9 : decode mS_init.2.1 9 = .ok (.putfield 9, 3) := by decide +kernel
theorem dS_init_12 : decode mS_init.2.1 12 = .ok (.aload_n 0, 1) := by decide +kernel
theorem dS_init_13 : decode mS_init.2.1 13 = .ok (.aload_n 1, 1) := by decide +kernel
theorem dS_init_14 : decode mS_init.2.1 14 = .ok (.putfield 15, 3) := by decide +kernel
theorem dS_init_17 : decode mS_init.2.1 17 = .ok (.aload_n 0, 1) := by decide +kernel
theorem dS_init_18 : decode mS_init.2.1 18 = .ok (.aload_n 2, 1) := by decide +kernel
theorem dS_init_19 : decode mS_init.2.1 19 = .ok (.putfield 19, 3) := by decide +kernel
theorem dS_init_22 : decode mS_init.2.1 22 = .ok (.return_, 1) := by decide +kernel
theorem dS_lookAgain_0 : decode mS_lookAgain.2.1 0 = .ok (.iconst 0, 1) := by decide +kernel
theorem dS_lookAgain_1 : decode mS_lookAgain.2.1 1 = .ok (.istore_n 1, 1) := by decide +kernel
theorem dS_lookAgain_2 : decode mS_lookAgain.2.1 2 = .ok (.iload_n 1, 1) := by decide +kernel
theorem dS_lookAgain_3 : decode mS_lookAgain.2.1 3 = .ok (.aload_n 0, 1) := by decide +kernel
theorem dS_lookAgain_4 : decode mS_lookAgain.2.1 4 = .ok (.getfield 15, 3) := by decide +kernel
theorem dS_lookAgain_7 : decode mS_lookAgain.2.1 7 = .ok (.getfield 23, 3) := by decide +kernel
theorem dS_lookAgain_10 : decode mS_lookAgain.2.1 10 = .ok (.if_icmp .ge 63, 3) := by decide +kernel
theorem dS_lookAgain_13 : decode mS_lookAgain.2.1 13 = .ok (.aload_n 0, 1) := by decide +kernel
theorem dS_lookAgain_14 : decode mS_lookAgain.2.1 14 = .ok (.getfield 15, 3) := by decide +kernel
theorem dS_lookAgain_17 : decode mS_lookAgain.2.1 17 = .ok (.getfield 29, 3) := by decide +kernel
theorem dS_lookAgain_20 : decode mS_lookAgain.2.1 20 = .ok (.iload_n 1, 1) := by decide +kernel
theorem dS_lookAgain_21 : decode mS_lookAgain.2.1 21 = .ok (.aaload, 1) := by decide +kernel
theorem dS_lookAgain_22 : decode mS_lookAgain.2.1 22 = .ok (.astore_n 2, 1) := by decide +kernel
theorem dS_lookAgain_23 : decode mS_lookAgain.2.1 23 = .ok (.iconst 0, 1) := by decide +kernel
theorem dS_lookAgain_24 : decode mS_lookAgain.2.1 24 = .ok (.istore_n 3, 1) := by decide +kernel
theorem dS_lookAgain_25 : decode mS_lookAgain.2.1 25 = .ok (.iload_n 3, 1) := by decide +kernel
theorem dS_lookAgain_26 : decode mS_lookAgain.2.1 26 = .ok (.aload_n 0, 1) := by decide +kernel
theorem dS_lookAgain_27 : decode mS_lookAgain.2.1 27 = .ok (.getfield 15, 3) := by decide +kernel
theorem dS_lookAgain_30 : decode mS_lookAgain.2.1 30 = .ok (.getfield 33, 3) := by decide +kernel
theorem dS_lookAgain_33 : decode mS_lookAgain.2.1 33 = .ok (.if_icmp .ge 34, 3) := by decide +kernel
theorem dS_lookAgain_36 : decode mS_lookAgain.2.1 36 = .ok (.aload_n 0, 1) := by decide +kernel
theorem dS_lookAgain_37 : decode mS_lookAgain.2.1 37 = .ok (.getfield 9, 3) := by decide +kernel
theorem dS_lookAgain_40 : decode mS_lookAgain.2.1 40 = .ok (.iload_n 1, 1) := by decide +kernel
theorem dS_lookAgain_41 : decode mS_lookAgain.2.1 41 = .ok (.bipush 6, 2) := by decide +kernel
theorem dS_lookAgain_43 : decode mS_lookAgain.2.1 43 = .ok (.imul, 1) := by decide +kernel
theorem dS_lookAgain_44 : decode mS_lookAgain.2.1 44 = .ok (.iload_n 3, 1) := by decide +kernel
theorem dS_lookAgain_45 : decode mS_lookAgain.2.1 45 = .ok (.iadd, 1) := by decide +kernel
theorem dS_lookAgain_46 : decode mS_lookAgain.2.1 46 = .ok (.aload_n 0, 1) := by decide +kernel
theorem dS_lookAgain_47 : decode mS_lookAgain.2.1 47 = .ok (.getfield 19, 3) := by decide +kernel
theorem dS_lookAgain_50 : decode mS_lookAgain.2.1 50 = .ok (.aload_n 2, 1) := by decide +kernel
theorem dS_lookAgain_51 : decode mS_lookAgain.2.1 51 = .ok (.iload_n 3, 1) := by decide +kernel
theorem dS_lookAgain_52 : decode mS_lookAgain.2.1 52 = .ok (.invokevirtual 36, 3) := by decide +kernel
theorem dS_lookAgain_55 : decode mS_lookAgain.2.1 55 = .ok (.aload_n 2, 1) := by decide +kernel
theorem dS_lookAgain_56 : decode mS_lookAgain.2.1 56 = .ok (.getfield 42, 3) := by decide +kernel
theorem dS_lookAgain_59 : decode mS_lookAgain.2.1 59 = .ok (.isub, 1) := by decide +kernel
theorem dS_lookAgain_60 : decode mS_lookAgain.2.1 60 = .ok (.iastore, 1) := by decide +kernel
theorem dS_lookAgain_61 : decode mS_lookAgain.2.1 61 = .ok (.iinc 3 1, 3) := by decide +kernel
theorem dS_lookAgain_64 : decode mS_lookAgain.2.1 64 = .ok (.goto (-39), 3) := by decide +kernel
theorem dS_lookAgain_67 : decode mS_lookAgain.2.1 67 = .ok (.iinc 1 1, 3) := by decide +kernel
theorem dS_lookAgain_70 : decode mS_lookAgain.2.1 70 = .ok (.goto (-68), 3) := by decide +kernel
theorem dS_lookAgain_73 : decode mS_lookAgain.2.1 73 = .ok (.return_, 1) := by decide +kernel
theorem dS_gainOf_0 : decode mS_gainOf.2.1 0 = .ok (.iconst 0, 1) := by decide +kernel
theorem dS_gainOf_1 : decode mS_gainOf.2.1 1 = .ok (.istore_n 3, 1) := by decide +kernel
theorem dS_gainOf_2 : decode mS_gainOf.2.1 2 = .ok (.iconst 0, 1) := by decide +kernel
theorem dS_gainOf_3 : decode mS_gainOf.2.1 3 = .ok (.istore 4, 2) := by decide +kernel
theorem dS_gainOf_5 : decode mS_gainOf.2.1 5 = .ok (.iload 4, 2) := by decide +kernel
theorem dS_gainOf_7 : decode mS_gainOf.2.1 7 = .ok (.aload_n 0, 1) := by decide +kernel
theorem dS_gainOf_8 : decode mS_gainOf.2.1 8 = .ok (.getfield 15, 3) := by decide +kernel
theorem dS_gainOf_11 : decode mS_gainOf.2.1 11 = .ok (.getfield 23, 3) := by decide +kernel
theorem dS_gainOf_14 : decode mS_gainOf.2.1 14 = .ok (.if_icmp .ge 33, 3) := by decide +kernel
theorem dS_gainOf_17 : decode mS_gainOf.2.1 17 = .ok (.iload_n 1, 1) := by decide +kernel
theorem dS_gainOf_18 : decode mS_gainOf.2.1 18 = .ok (.iload 4, 2) := by decide +kernel
theorem dS_gainOf_20 : decode mS_gainOf.2.1 20 = .ok (.invokestatic 47, 3) := by decide +kernel
theorem dS_gainOf_23 : decode mS_gainOf.2.1 23 = .ok (.ifCond .eq 18, 3) := by decide +kernel
theorem dS_gainOf_26 : decode mS_gainOf.2.1 26 = .ok (.iload_n 3, 1) := by decide +kernel
theorem dS_gainOf_27 : decode mS_gainOf.2.1 27 = .ok (.aload_n 0, 1) := by decide +kernel
theorem dS_gainOf_28 : decode mS_gainOf.2.1 28 = .ok (.getfield 9, 3) := by decide +kernel
theorem dS_gainOf_31 : decode mS_gainOf.2.1 31 = .ok (.iload 4, 2) := by decide +kernel
theorem dS_gainOf_33 : decode mS_gainOf.2.1 33 = .ok (.bipush 6, 2) := by decide +kernel
theorem dS_gainOf_35 : decode mS_gainOf.2.1 35 = .ok (.imul, 1) := by decide +kernel
theorem dS_gainOf_36 : decode mS_gainOf.2.1 36 = .ok (.iload_n 2, 1) := by decide +kernel
theorem dS_gainOf_37 : decode mS_gainOf.2.1 37 = .ok (.iadd, 1) := by decide +kernel
theorem dS_gainOf_38 : decode mS_gainOf.2.1 38 = .ok (.iaload, 1) := by decide +kernel
theorem dS_gainOf_39 : decode mS_gainOf.2.1 39 = .ok (.iadd, 1) := by decide +kernel
theorem dS_gainOf_40 : decode mS_gainOf.2.1 40 = .ok (.istore_n 3, 1) := by decide +kernel
theorem dS_gainOf_41 : decode mS_gainOf.2.1 41 = .ok (.iinc 4 1, 3) := by decide +kernel
theorem dS_gainOf_44 : decode mS_gainOf.2.1 44 = .ok (.goto (-39), 3) := by decide +kernel
theorem dS_gainOf_47 : decode mS_gainOf.2.1 47 = .ok (.iload_n 3, 1) := by decide +kernel
theorem dS_gainOf_48 : decode mS_gainOf.2.1 48 = .ok (.ireturn, 1) := by decide +kernel
theorem dS_leastOf_0 : decode mS_leastOf.2.1 0 = .ok (.aload_n 0, 1) := by decide +kernel
theorem dS_leastOf_1 : decode mS_leastOf.2.1 1 = .ok (.getfield 15, 3) := by decide +kernel
theorem dS_leastOf_4 : decode mS_leastOf.2.1 4 = .ok (.getfield 33, 3) := by decide +kernel
theorem dS_leastOf_7 : decode mS_leastOf.2.1 7 = .ok (.ifCond .ne 5, 3) := by decide +kernel
theorem dS_leastOf_10 : decode mS_leastOf.2.1 10 = .ok (.iconst 0, 1) := by decide +kernel
theorem dS_leastOf_11 : decode mS_leastOf.2.1 11 = .ok (.ireturn, 1) := by decide +kernel
theorem dS_leastOf_12 : decode mS_leastOf.2.1 12 = .ok (.aload_n 0, 1) := by decide +kernel
theorem dS_leastOf_13 : decode mS_leastOf.2.1 13 = .ok (.iload_n 1, 1) := by decide +kernel
theorem dS_leastOf_14 : decode mS_leastOf.2.1 14 = .ok (.iconst 0, 1) := by decide +kernel
theorem dS_leastOf_15 : decode mS_leastOf.2.1 15 = .ok (.invokevirtual 51, 3) := by decide +kernel
theorem dS_leastOf_18 : decode mS_leastOf.2.1 18 = .ok (.istore_n 2, 1) := by decide +kernel
theorem dS_leastOf_19 : decode mS_leastOf.2.1 19 = .ok (.iconst 1, 1) := by decide +kernel
theorem dS_leastOf_20 : decode mS_leastOf.2.1 20 = .ok (.istore_n 3, 1) := by decide +kernel
theorem dS_leastOf_21 : decode mS_leastOf.2.1 21 = .ok (.iload_n 3, 1) := by decide +kernel
theorem dS_leastOf_22 : decode mS_leastOf.2.1 22 = .ok (.aload_n 0, 1) := by decide +kernel
theorem dS_leastOf_23 : decode mS_leastOf.2.1 23 = .ok (.getfield 15, 3) := by decide +kernel
theorem dS_leastOf_26 : decode mS_leastOf.2.1 26 = .ok (.getfield 33, 3) := by decide +kernel
theorem dS_leastOf_29 : decode mS_leastOf.2.1 29 = .ok (.if_icmp .ge 20, 3) := by decide +kernel
theorem dS_leastOf_32 : decode mS_leastOf.2.1 32 = .ok (.iload_n 2, 1) := by decide +kernel
theorem dS_leastOf_33 : decode mS_leastOf.2.1 33 = .ok (.aload_n 0, 1) := by decide +kernel
theorem dS_leastOf_34 : decode mS_leastOf.2.1 34 = .ok (.iload_n 1, 1) := by decide +kernel
theorem dS_leastOf_35 : decode mS_leastOf.2.1 35 = .ok (.iload_n 3, 1) := by decide +kernel
theorem dS_leastOf_36 : decode mS_leastOf.2.1 36 = .ok (.invokevirtual 51, 3) := by decide +kernel
theorem dS_leastOf_39 : decode mS_leastOf.2.1 39 = .ok (.invokestatic 55, 3) := by decide +kernel
theorem dS_leastOf_42 : decode mS_leastOf.2.1 42 = .ok (.istore_n 2, 1) := by decide +kernel
theorem dS_leastOf_43 : decode mS_leastOf.2.1 43 = .ok (.iinc 3 1, 3) := by decide +kernel
theorem dS_leastOf_46 : decode mS_leastOf.2.1 46 = .ok (.goto (-25), 3) := by decide +kernel
theorem dS_leastOf_49 : decode mS_leastOf.2.1 49 = .ok (.iload_n 2, 1) := by decide +kernel
theorem dS_leastOf_50 : decode mS_leastOf.2.1 50 = .ok (.ireturn, 1) := by decide +kernel
theorem dS_safestSet_0 : decode mS_safestSet.2.1 0 = .ok (.iconst 0, 1) := by decide +kernel
theorem dS_safestSet_1 : decode mS_safestSet.2.1 1 = .ok (.istore_n 1, 1) := by decide +kernel
theorem dS_safestSet_2 : decode mS_safestSet.2.1 2 = .ok (.aload_n 0, 1) := by decide +kernel
theorem dS_safestSet_3 : decode mS_safestSet.2.1 3 = .ok (.iconst 0, 1) := by decide +kernel
theorem dS_safestSet_4 : decode mS_safestSet.2.1 4 = .ok (.invokevirtual 60, 3) := by decide +kernel
theorem dS_safestSet_7 : decode mS_safestSet.2.1 7 = .ok (.istore_n 2, 1) := by decide +kernel
theorem dS_safestSet_8 : decode mS_safestSet.2.1 8 = .ok (.iconst 1, 1) := by decide +kernel
theorem dS_safestSet_9 : decode mS_safestSet.2.1 9 = .ok (.istore_n 3, 1) := by decide +kernel
theorem dS_safestSet_10 : decode mS_safestSet.2.1 10 = .ok (.iload_n 3, 1) := by decide +kernel
theorem dS_safestSet_11 : decode mS_safestSet.2.1 11 = .ok (.aload_n 0, 1) := by decide +kernel
theorem dS_safestSet_12 : decode mS_safestSet.2.1 12 = .ok (.getfield 15, 3) := by decide +kernel
theorem dS_safestSet_15 : decode mS_safestSet.2.1 15 = .ok (.invokevirtual 64, 3) := by decide +kernel
theorem dS_safestSet_18 : decode mS_safestSet.2.1 18 = .ok (.if_icmp .gt 27, 3) := by decide +kernel
theorem dS_safestSet_21 : decode mS_safestSet.2.1 21 = .ok (.aload_n 0, 1) := by decide +kernel
theorem dS_safestSet_22 : decode mS_safestSet.2.1 22 = .ok (.iload_n 3, 1) := by decide +kernel
theorem dS_safestSet_23 : decode mS_safestSet.2.1 23 = .ok (.invokevirtual 60, 3) := by decide +kernel
theorem dS_safestSet_26 : decode mS_safestSet.2.1 26 = .ok (.istore 4, 2) := by decide +kernel
theorem dS_safestSet_28 : decode mS_safestSet.2.1 28 = .ok (.iload 4, 2) := by decide +kernel
theorem dS_safestSet_30 : decode mS_safestSet.2.1 30 = .ok (.iload_n 2, 1) := by decide +kernel
theorem dS_safestSet_31 : decode mS_safestSet.2.1 31 = .ok (.if_icmp .le 8, 3) := by decide +kernel
theorem dS_safestSet_34 : decode mS_safestSet.2.1 34 = .ok (.iload 4, 2) := by decide +kernel
theorem dS_safestSet_36 : decode mS_safestSet.2.1 36 = .ok (.istore_n 2, 1) := by decide +kernel
theorem dS_safestSet_37 : decode mS_safestSet.2.1 37 = .ok (.iload_n 3, 1) := by decide +kernel
theorem dS_safestSet_38 : decode mS_safestSet.2.1 38 = .ok (.istore_n 1, 1) := by decide +kernel
theorem dS_safestSet_39 : decode mS_safestSet.2.1 39 = .ok (.iinc 3 1, 3) := by decide +kernel
theorem dS_safestSet_42 : decode mS_safestSet.2.1 42 = .ok (.goto (-32), 3) := by decide +kernel
theorem dS_safestSet_45 : decode mS_safestSet.2.1 45 = .ok (.iload_n 1, 1) := by decide +kernel
theorem dS_safestSet_46 : decode mS_safestSet.2.1 46 = .ok (.ireturn, 1) := by decide +kernel
theorem dS_sureSet_0 : decode mS_sureSet.2.1 0 = .ok (.iconst 1, 1) := by decide +kernel
theorem dS_sureSet_1 : decode mS_sureSet.2.1 1 = .ok (.istore_n 1, 1) := by decide +kernel
theorem dS_sureSet_2 : decode mS_sureSet.2.1 2 = .ok (.iload_n 1, 1) := by decide +kernel
theorem dS_sureSet_3 : decode mS_sureSet.2.1 3 = .ok (.aload_n 0, 1) := by decide +kernel
theorem dS_sureSet_4 : decode mS_sureSet.2.1 4 = .ok (.getfield 15, 3) := by decide +kernel
theorem dS_sureSet_7 : decode mS_sureSet.2.1 7 = .ok (.invokevirtual 64, 3) := by decide +kernel
theorem dS_sureSet_10 : decode mS_sureSet.2.1 10 = .ok (.if_icmp .gt 19, 3) := by decide +kernel
theorem dS_sureSet_13 : decode mS_sureSet.2.1 13 = .ok (.aload_n 0, 1) := by decide +kernel
theorem dS_sureSet_14 : decode mS_sureSet.2.1 14 = .ok (.iload_n 1, 1) := by decide +kernel
theorem dS_sureSet_15 : decode mS_sureSet.2.1 15 = .ok (.invokevirtual 60, 3) := by decide +kernel
theorem dS_sureSet_18 : decode mS_sureSet.2.1 18 = .ok (.ifCond .le 5, 3) := by decide +kernel
theorem dS_sureSet_21 : decode mS_sureSet.2.1 21 = .ok (.iload_n 1, 1) := by decide +kernel
theorem dS_sureSet_22 : decode mS_sureSet.2.1 22 = .ok (.ireturn, 1) := by decide +kernel
theorem dS_sureSet_23 : decode mS_sureSet.2.1 23 = .ok (.iinc 1 1, 3) := by decide +kernel
theorem dS_sureSet_26 : decode mS_sureSet.2.1 26 = .ok (.goto (-24), 3) := by decide +kernel
theorem dS_sureSet_29 : decode mS_sureSet.2.1 29 = .ok (.iconst 0, 1) := by decide +kernel
theorem dS_sureSet_30 : decode mS_sureSet.2.1 30 = .ok (.ireturn, 1) := by decide +kernel
theorem dS_closestTwo_0 : decode mS_closestTwo.2.1 0 = .ok (.bipush (-5), 2) := by decide +kernel
theorem dS_closestTwo_2 : decode mS_closestTwo.2.1 2 = .ok (.istore_n 1, 1) := by decide +kernel
theorem dS_closestTwo_3 : decode mS_closestTwo.2.1 3 = .ok (.ldc 70, 2) := by decide +kernel
theorem dS_closestTwo_5 : decode mS_closestTwo.2.1 5 = .ok (.istore_n 2, 1) := by decide +kernel
theorem dS_closestTwo_6 : decode mS_closestTwo.2.1 6 = .ok (.iconst 0, 1) := by decide +kernel
theorem dS_closestTwo_7 : decode mS_closestTwo.2.1 7 = .ok (.istore_n 3, 1) := by decide +kernel
theorem dS_closestTwo_8 : decode mS_closestTwo.2.1 8 = .ok (.iload_n 3, 1) := by decide +kernel
theorem dS_closestTwo_9 : decode mS_closestTwo.2.1 9 = .ok (.aload_n 0, 1) := by decide +kernel
theorem dS_closestTwo_10 : decode mS_closestTwo.2.1 10 = .ok (.getfield 15, 3) := by decide +kernel
theorem dS_closestTwo_13 : decode mS_closestTwo.2.1 13 = .ok (.getfield 23, 3) := by decide +kernel
theorem dS_closestTwo_16 : decode mS_closestTwo.2.1 16 = .ok (.if_icmp .ge 63, 3) := by decide +kernel
theorem dS_closestTwo_19 : decode mS_closestTwo.2.1 19 = .ok (.iload_n 3, 1) := by decide +kernel
theorem dS_closestTwo_20 : decode mS_closestTwo.2.1 20 = .ok (.iconst 1, 1) := by decide +kernel
theorem dS_closestTwo_21 : decode mS_closestTwo.2.1 21 = .ok (.iadd, 1) := by decide +kernel
theorem dS_closestTwo_22 : decode mS_closestTwo.2.1 22 = .ok (.istore 4, 2) := by decide +kernel
theorem dS_closestTwo_24 : decode mS_closestTwo.2.1 24 = .ok (.iload 4, 2) := by decide +kernel
theorem dS_closestTwo_26 : decode mS_closestTwo.2.1 26 = .ok (.aload_n 0, 1) := by decide +kernel
theorem dS_closestTwo_27 : decode mS_closestTwo.2.1 27 = .ok (.getfield 15, 3) := by decide +kernel
theorem dS_closestTwo_30 : decode mS_closestTwo.2.1 30 = .ok (.getfield 23, 3) := by decide +kernel
theorem dS_closestTwo_33 : decode mS_closestTwo.2.1 33 = .ok (.if_icmp .ge 40, 3) := by decide +kernel
theorem dS_closestTwo_36 : decode mS_closestTwo.2.1 36 = .ok (.aload_n 0, 1) := by decide +kernel
theorem dS_closestTwo_37 : decode mS_closestTwo.2.1 37 = .ok (.iconst 1, 1) := by decide +kernel
theorem dS_closestTwo_38 : decode mS_closestTwo.2.1 38 = .ok (.iload_n 3, 1) := by decide +kernel
theorem dS_closestTwo_39 : decode mS_closestTwo.2.1 39 = .ok (.ishl, 1) := by decide +kernel
theorem dS_closestTwo_40 : decode mS_closestTwo.2.1 40 = .ok (.iconst 1, 1) := by decide +kernel
theorem dS_closestTwo_41 : decode mS_closestTwo.2.1 41 = .ok (.iload 4, 2) := by decide +kernel
theorem dS_closestTwo_43 : decode mS_closestTwo.2.1 43 = .ok (.ishl, 1) := by decide +kernel
theorem dS_closestTwo_44 : decode mS_closestTwo.2.1 44 = .ok (.ior, 1) := by decide +kernel
theorem dS_closestTwo_45 : decode mS_closestTwo.2.1 45 = .ok (.invokevirtual 71, 3) := by decide +kernel
theorem dS_closestTwo_48 : decode mS_closestTwo.2.1 48 = .ok (.istore 5, 2) := by decide +kernel
theorem dS_closestTwo_50 : decode mS_closestTwo.2.1 50 = .ok (.iload 5, 2) := by decide +kernel
theorem dS_closestTwo_52 : decode mS_closestTwo.2.1 52 = .ok (.iload_n 2, 1) := by decide +kernel
theorem dS_closestTwo_53 : decode mS_closestTwo.2.1 53 = .ok (.if_icmp .ge 14, 3) := by decide +kernel
theorem dS_closestTwo_56 : decode mS_closestTwo.2.1 56 = .ok (.iload 5, 2) := by decide +kernel
theorem dS_closestTwo_58 : decode mS_closestTwo.2.1 58 = .ok (.istore_n 2, 1) := by decide +kernel
theorem dS_closestTwo_59 : decode mS_closestTwo.2.1 59 = .ok (.bipush 10, 2) := by decide +kernel
theorem dS_closestTwo_61 : decode mS_closestTwo.2.1 61 = .ok (.iload_n 3, 1) := by decide +kernel
theorem dS_closestTwo_62 : decode mS_closestTwo.2.1 62 = .ok (.imul, 1) := by decide +kernel
theorem dS_closestTwo_63 : decode mS_closestTwo.2.1 63 = .ok (.iload 4, 2) := by decide +kernel
theorem dS_closestTwo_65 : decode mS_closestTwo.2.1 65 = .ok (.iadd, 1) := by decide +kernel
theorem dS_closestTwo_66 : decode mS_closestTwo.2.1 66 = .ok (.istore_n 1, 1) := by decide +kernel
theorem dS_closestTwo_67 : decode mS_closestTwo.2.1 67 = .ok (.iinc 4 1, 3) := by decide +kernel
theorem dS_closestTwo_70 : decode mS_closestTwo.2.1 70 = .ok (.goto (-46), 3) := by decide +kernel
theorem dS_closestTwo_73 : decode mS_closestTwo.2.1 73 = .ok (.iinc 3 1, 3) := by decide +kernel
theorem dS_closestTwo_76 : decode mS_closestTwo.2.1 76 = .ok (.goto (-68), 3) := by decide +kernel
theorem dS_closestTwo_79 : decode mS_closestTwo.2.1 79 = .ok (.iload_n 1, 1) := by decide +kernel
theorem dS_closestTwo_80 : decode mS_closestTwo.2.1 80 = .ok (.ireturn, 1) := by decide +kernel
theorem dS_spanOf_0 : decode mS_spanOf.2.1 0 = .ok (.aload_n 0, 1) := by decide +kernel
theorem dS_spanOf_1 : decode mS_spanOf.2.1 1 = .ok (.iload_n 1, 1) := by decide +kernel
theorem dS_spanOf_2 : decode mS_spanOf.2.1 2 = .ok (.iconst 0, 1) := by decide +kernel
theorem dS_spanOf_3 : decode mS_spanOf.2.1 3 = .ok (.invokevirtual 51, 3) := by decide +kernel
theorem dS_spanOf_6 : decode mS_spanOf.2.1 6 = .ok (.istore_n 2, 1) := by decide +kernel
theorem dS_spanOf_7 : decode mS_spanOf.2.1 7 = .ok (.iconst 1, 1) := by decide +kernel
theorem dS_spanOf_8 : decode mS_spanOf.2.1 8 = .ok (.istore_n 3, 1) := by decide +kernel
theorem dS_spanOf_9 : decode mS_spanOf.2.1 9 = .ok (.iload_n 3, 1) := by decide +kernel
theorem dS_spanOf_10 : decode mS_spanOf.2.1 10 = .ok (.aload_n 0, 1) := by decide +kernel
theorem dS_spanOf_11 : decode mS_spanOf.2.1 11 = .ok (.getfield 15, 3) := by decide +kernel
theorem dS_spanOf_14 : decode mS_spanOf.2.1 14 = .ok (.getfield 33, 3) := by decide +kernel
theorem dS_spanOf_17 : decode mS_spanOf.2.1 17 = .ok (.if_icmp .ge 20, 3) := by decide +kernel
theorem dS_spanOf_20 : decode mS_spanOf.2.1 20 = .ok (.iload_n 2, 1) := by decide +kernel
theorem dS_spanOf_21 : decode mS_spanOf.2.1 21 = .ok (.aload_n 0, 1) := by decide +kernel
theorem dS_spanOf_22 : decode mS_spanOf.2.1 22 = .ok (.iload_n 1, 1) := by decide +kernel
theorem dS_spanOf_23 : decode mS_spanOf.2.1 23 = .ok (.iload_n 3, 1) := by decide +kernel
theorem dS_spanOf_24 : decode mS_spanOf.2.1 24 = .ok (.invokevirtual 51, 3) := by decide +kernel
theorem dS_spanOf_27 : decode mS_spanOf.2.1 27 = .ok (.invokestatic 74, 3) := by decide +kernel
theorem dS_spanOf_30 : decode mS_spanOf.2.1 30 = .ok (.istore_n 2, 1) := by decide +kernel
theorem dS_spanOf_31 : decode mS_spanOf.2.1 31 = .ok (.iinc 3 1, 3) := by decide +kernel
theorem dS_spanOf_34 : decode mS_spanOf.2.1 34 = .ok (.goto (-25), 3) := by decide +kernel
theorem dS_spanOf_37 : decode mS_spanOf.2.1 37 = .ok (.iload_n 2, 1) := by decide +kernel
theorem dS_spanOf_38 : decode mS_spanOf.2.1 38 = .ok (.aload_n 0, 1) := by decide +kernel
theorem dS_spanOf_39 : decode mS_spanOf.2.1 39 = .ok (.iload_n 1, 1) := by decide +kernel
theorem dS_spanOf_40 : decode mS_spanOf.2.1 40 = .ok (.invokevirtual 60, 3) := by decide +kernel
theorem dS_spanOf_43 : decode mS_spanOf.2.1 43 = .ok (.isub, 1) := by decide +kernel
theorem dS_spanOf_44 : decode mS_spanOf.2.1 44 = .ok (.ireturn, 1) := by decide +kernel
theorem dQ_test_0 : decode mQ_test.2.1 0 = .ok (.iload_n 0, 1) := by decide +kernel
theorem dQ_test_1 : decode mQ_test.2.1 1 = .ok (.iconst 3, 1) := by decide +kernel
theorem dQ_test_2 : decode mQ_test.2.1 2 = .ok (.imul, 1) := by decide +kernel
theorem dQ_test_3 : decode mQ_test.2.1 3 = .ok (.iload_n 1, 1) := by decide +kernel
theorem dQ_test_4 : decode mQ_test.2.1 4 = .ok (.iadd, 1) := by decide +kernel
theorem dQ_test_5 : decode mQ_test.2.1 5 = .ok (.bipush 100, 2) := by decide +kernel
theorem dQ_test_7 : decode mQ_test.2.1 7 = .ok (.imul, 1) := by decide +kernel
theorem dQ_test_8 : decode mQ_test.2.1 8 = .ok (.iload_n 2, 1) := by decide +kernel
theorem dQ_test_9 : decode mQ_test.2.1 9 = .ok (.iadd, 1) := by decide +kernel
theorem dQ_test_10 : decode mQ_test.2.1 10 = .ok (.ireturn, 1) := by decide +kernel
theorem dQ_isMet_0 : decode mQ_isMet.2.1 0 = .ok (.iload_n 0, 1) := by decide +kernel
theorem dQ_isMet_1 : decode mQ_isMet.2.1 1 = .ok (.sipush 300, 3) := by decide +kernel
theorem dQ_isMet_4 : decode mQ_isMet.2.1 4 = .ok (.idiv, 1) := by decide +kernel
theorem dQ_isMet_5 : decode mQ_isMet.2.1 5 = .ok (.istore_n 2, 1) := by decide +kernel
theorem dQ_isMet_6 : decode mQ_isMet.2.1 6 = .ok (.iload_n 2, 1) := by decide +kernel
theorem dQ_isMet_7 : decode mQ_isMet.2.1 7 = .ok (.ifCond .lt 15, 3) := by decide +kernel
theorem dQ_isMet_10 : decode mQ_isMet.2.1 10 = .ok (.iload_n 2, 1) := by decide +kernel
theorem dQ_isMet_11 : decode mQ_isMet.2.1 11 = .ok (.aload_n 1, 1) := by decide +kernel
theorem dQ_isMet_12 : decode mQ_isMet.2.1 12 = .ok (.arraylength, 1) := by decide +kernel
theorem dQ_isMet_13 : decode mQ_isMet.2.1 13 = .ok (.if_icmp .ge 9, 3) := by decide +kernel
theorem dQ_isMet_16 : decode mQ_isMet.2.1 16 = .ok (.aload_n 1, 1) := by decide +kernel
theorem dQ_isMet_17 : decode mQ_isMet.2.1 17 = .ok (.iload_n 2, 1) := by decide +kernel
theorem dQ_isMet_18 : decode mQ_isMet.2.1 18 = .ok (.iaload, 1) := by decide +kernel
theorem dQ_isMet_19 : decode mQ_isMet.2.1 19 = .ok (.goto 4, 3) := by decide +kernel
theorem dQ_isMet_22 : decode mQ_isMet.2.1 22 = .ok (.iconst 0, 1) := by decide +kernel
theorem dQ_isMet_23 : decode mQ_isMet.2.1 23 = .ok (.istore_n 3, 1) := by decide +kernel
theorem dQ_isMet_24 : decode mQ_isMet.2.1 24 = .ok (.iload_n 0, 1) := by decide +kernel
theorem dQ_isMet_25 : decode mQ_isMet.2.1 25 = .ok (.bipush 100, 2) := by decide +kernel
theorem dQ_isMet_27 : decode mQ_isMet.2.1 27 = .ok (.irem, 1) := by decide +kernel
theorem dQ_isMet_28 : decode mQ_isMet.2.1 28 = .ok (.istore 4, 2) := by decide +kernel
theorem dQ_isMet_30 : decode mQ_isMet.2.1 30 = .ok (.iload_n 0, 1) := by decide +kernel
theorem dQ_isMet_31 : decode mQ_isMet.2.1 31 = .ok (.bipush 100, 2) := by decide +kernel
theorem dQ_isMet_33 : decode mQ_isMet.2.1 33 = .ok (.idiv, 1) := by decide +kernel
theorem dQ_isMet_34 : decode mQ_isMet.2.1 34 = .ok (.iconst 3, 1) := by decide +kernel
theorem dQ_isMet_35 : decode mQ_isMet.2.1 35 = .ok (.irem, 1) := by decide +kernel
theorem dQ_isMet_36 : decode mQ_isMet.2.1 36 = .ok (.lookupswitch 52 #[(0, 28), (1, 40)], 28) := by decide +kernel
theorem dQ_isMet_64 : decode mQ_isMet.2.1 64 = .ok (.iload_n 3, 1) := by decide +kernel
theorem dQ_isMet_65 : decode mQ_isMet.2.1 65 = .ok (.iload 4, 2) := by decide +kernel
theorem dQ_isMet_67 : decode mQ_isMet.2.1 67 = .ok (.if_icmp .ge 7, 3) := by decide +kernel
theorem dQ_isMet_70 : decode mQ_isMet.2.1 70 = .ok (.iconst 1, 1) := by decide +kernel
theorem dQ_isMet_71 : decode mQ_isMet.2.1 71 = .ok (.goto 4, 3) := by decide +kernel
theorem dQ_isMet_74 : decode mQ_isMet.2.1 74 = .ok (.iconst 0, 1) := by decide +kernel
theorem dQ_isMet_75 : decode mQ_isMet.2.1 75 = .ok (.ireturn, 1) := by decide +kernel
theorem dQ_isMet_76 : decode mQ_isMet.2.1 76 = .ok (.iload_n 3, 1) := by decide +kernel
theorem dQ_isMet_77 : decode mQ_isMet.2.1 77 = .ok (.iload 4, 2) := by decide +kernel
theorem dQ_isMet_79 : decode mQ_isMet.2.1 79 = .ok (.if_icmp .ne 7, 3) := by decide +kernel
theorem dQ_isMet_82 : decode mQ_isMet.2.1 82 = .ok (.iconst 1, 1) := by decide +kernel
theorem dQ_isMet_83 : decode mQ_isMet.2.1 83 = .ok (.goto 4, 3) := by decide +kernel
theorem dQ_isMet_86 : decode mQ_isMet.2.1 86 = .ok (.iconst 0, 1) := by decide +kernel
theorem dQ_isMet_87 : decode mQ_isMet.2.1 87 = .ok (.ireturn, 1) := by decide +kernel
theorem dQ_isMet_88 : decode mQ_isMet.2.1 88 = .ok (.iload_n 3, 1) := by decide +kernel
theorem dQ_isMet_89 : decode mQ_isMet.2.1 89 = .ok (.iload 4, 2) := by decide +kernel
theorem dQ_isMet_91 : decode mQ_isMet.2.1 91 = .ok (.if_icmp .le 7, 3) := by decide +kernel
theorem dQ_isMet_94 : decode mQ_isMet.2.1 94 = .ok (.iconst 1, 1) := by decide +kernel
theorem dQ_isMet_95 : decode mQ_isMet.2.1 95 = .ok (.goto 4, 3) := by decide +kernel
theorem dQ_isMet_98 : decode mQ_isMet.2.1 98 = .ok (.iconst 0, 1) := by decide +kernel
theorem dQ_isMet_99 : decode mQ_isMet.2.1 99 = .ok (.ireturn, 1) := by decide +kernel
theorem dQ_joined_0 : decode mQ_joined.2.1 0 = .ok (.iload_n 0, 1) := by decide +kernel
theorem dQ_joined_1 : decode mQ_joined.2.1 1 = .ok (.lookupswitch 40 #[(-2, 31), (-1, 27)], 27) := by decide +kernel
theorem dQ_joined_28 : decode mQ_joined.2.1 28 = .ok (.iload_n 1, 1) := by decide +kernel
theorem dQ_joined_29 : decode mQ_joined.2.1 29 = .ok (.iconst 1, 1) := by decide +kernel
theorem dQ_joined_30 : decode mQ_joined.2.1 30 = .ok (.ixor, 1) := by decide +kernel
theorem dQ_joined_31 : decode mQ_joined.2.1 31 = .ok (.ireturn, 1) := by decide +kernel
theorem dQ_joined_32 : decode mQ_joined.2.1 32 = .ok (.iload_n 1, 1) := by decide +kernel
theorem dQ_joined_33 : decode mQ_joined.2.1 33 = .ok (.iconst 1, 1) := by decide +kernel
theorem dQ_joined_34 : decode mQ_joined.2.1 34 = .ok (.ishr, 1) := by decide +kernel
theorem dQ_joined_35 : decode mQ_joined.2.1 35 = .ok (.iload_n 1, 1) := by decide +kernel
theorem dQ_joined_36 : decode mQ_joined.2.1 36 = .ok (.bipush (-2), 2) := by decide +kernel
theorem dQ_joined_38 : decode mQ_joined.2.1 38 = .ok (.ior, 1) := by decide +kernel
theorem dQ_joined_39 : decode mQ_joined.2.1 39 = .ok (.iand, 1) := by decide +kernel
theorem dQ_joined_40 : decode mQ_joined.2.1 40 = .ok (.ireturn, 1) := by decide +kernel
theorem dQ_joined_41 : decode mQ_joined.2.1 41 = .ok (.iload_n 1, 1) := by decide +kernel
theorem dQ_joined_42 : decode mQ_joined.2.1 42 = .ok (.iconst 1, 1) := by decide +kernel
theorem dQ_joined_43 : decode mQ_joined.2.1 43 = .ok (.ishr, 1) := by decide +kernel
theorem dQ_joined_44 : decode mQ_joined.2.1 44 = .ok (.iload_n 1, 1) := by decide +kernel
theorem dQ_joined_45 : decode mQ_joined.2.1 45 = .ok (.iconst 1, 1) := by decide +kernel
theorem dQ_joined_46 : decode mQ_joined.2.1 46 = .ok (.iand, 1) := by decide +kernel
theorem dQ_joined_47 : decode mQ_joined.2.1 47 = .ok (.ior, 1) := by decide +kernel
theorem dQ_joined_48 : decode mQ_joined.2.1 48 = .ok (.ireturn, 1) := by decide +kernel
theorem dT_init_0 : decode mT_init.2.1 0 = .ok (.aload_n 0, 1) := by decide +kernel
theorem dT_init_1 : decode mT_init.2.1 1 = .ok (.invokespecial 3, 3) := by decide +kernel
theorem dT_init_4 : decode mT_init.2.1 4 = .ok (.aload_n 0, 1) := by decide +kernel
theorem dT_init_5 : decode mT_init.2.1 5 = .ok (.bipush 6, 2) := by decide +kernel
theorem dT_init_7 : decode mT_init.2.1 7 = .ok (.newarray .int, 2) := by decide +kernel
theorem dT_init_9 : decode mT_init.2.1 9 = .ok (.putfield 9, 3) := by decide +kernel
theorem dT_init_12 : decode mT_init.2.1 12 = .ok (.aload_n 0, 1) := by decide +kernel
theorem dT_init_13 : decode mT_init.2.1 13 = .ok (.bipush 6, 2) := by decide +kernel
theorem dT_init_15 : decode mT_init.2.1 15 = .ok (.newarray .int, 2) := by decide +kernel
theorem dT_init_17 : decode mT_init.2.1 17 = .ok (.putfield 15, 3) := by decide +kernel
theorem dT_init_20 : decode mT_init.2.1 20 = .ok (.aload_n 0, 1) := by decide +kernel
theorem dT_init_21 : decode mT_init.2.1 21 = .ok (.bipush 6, 2) := by decide +kernel
theorem dT_init_23 : decode mT_init.2.1 23 = .ok (.bipush 60, 2) := by decide +kernel
theorem dT_init_25 : decode mT_init.2.1 25 = .ok (.multianewarray 18 2, 4) := by decide +kernel
theorem dT_init_29 : decode mT_init.2.1 29 = .ok (.putfield 20, 3) := by decide +kernel
theorem dT_init_32 : decode mT_init.2.1 32 = .ok (.iconst 0, 1) := by decide +kernel
theorem dT_init_33 : decode mT_init.2.1 33 = .ok (.istore_n 1, 1) := by decide +kernel
theorem dT_init_34 : decode mT_init.2.1 34 = .ok (.iload_n 1, 1) := by decide +kernel
theorem dT_init_35 : decode mT_init.2.1 35 = .ok (.bipush 6, 2) := by decide +kernel
theorem dT_init_37 : decode mT_init.2.1 37 = .ok (.if_icmp .ge 16, 3) := by decide +kernel
theorem dT_init_40 : decode mT_init.2.1 40 = .ok (.aload_n 0, 1) := by decide +kernel
theorem dT_init_41 : decode mT_init.2.1 41 = .ok (.getfield 9, 3) := by decide +kernel
theorem dT_init_44 : decode mT_init.2.1 44 = .ok (.iload_n 1, 1) := by decide +kernel
theorem dT_init_45 : decode mT_init.2.1 45 = .ok (.iconst (-1), 1) := by decide +kernel
theorem dT_init_46 : decode mT_init.2.1 46 = .ok (.iastore, 1) := by decide +kernel
theorem dT_init_47 : decode mT_init.2.1 47 = .ok (.iinc 1 1, 3) := by decide +kernel
theorem dT_init_50 : decode mT_init.2.1 50 = .ok (.goto (-16), 3) := by decide +kernel
theorem dT_init_53 : decode mT_init.2.1 53 = .ok (.return_, 1) := by decide +kernel
theorem dT_has_0 : decode mT_has.2.1 0 = .ok (.iload_n 1, 1) := by decide +kernel
theorem dT_has_1 : decode mT_has.2.1 1 = .ok (.ifCond .lt 13, 3) := by decide +kernel
theorem dT_has_4 : decode mT_has.2.1 4 = .ok (.iload_n 1, 1) := by decide +kernel
theorem dT_has_5 : decode mT_has.2.1 5 = .ok (.bipush 6, 2) := by decide +kernel
theorem dT_has_7 : decode mT_has.2.1 7 = .ok (.if_icmp .ge 7, 3) := by decide +kernel
theorem dT_has_10 : decode mT_has.2.1 10 = .ok (.iconst 1, 1) := by decide +kernel
theorem dT_has_11 : decode mT_has.2.1 11 = .ok (.goto 4, 3) := by decide +kernel
theorem dT_has_14 : decode mT_has.2.1 14 = .ok (.iconst 0, 1) := by decide +kernel
theorem dT_has_15 : decode mT_has.2.1 15 = .ok (.ireturn, 1) := by decide +kernel
theorem dT_holds_0 : decode mT_holds.2.1 0 = .ok (.aload_n 0, 1) := by decide +kernel
theorem dT_holds_1 : decode mT_holds.2.1 1 = .ok (.getfield 9, 3) := by decide +kernel
theorem dT_holds_4 : decode mT_holds.2.1 4 = .ok (.iload_n 1, 1) := by decide +kernel
theorem dT_holds_5 : decode mT_holds.2.1 5 = .ok (.iaload, 1) := by decide +kernel
theorem dT_holds_6 : decode mT_holds.2.1 6 = .ok (.iconst (-1), 1) := by decide +kernel
theorem dT_holds_7 : decode mT_holds.2.1 7 = .ok (.if_icmp .eq 7, 3) := by decide +kernel
theorem dT_holds_10 : decode mT_holds.2.1 10 = .ok (.iconst 1, 1) := by decide +kernel
theorem dT_holds_11 : decode mT_holds.2.1 11 = .ok (.goto 4, 3) := by decide +kernel
theorem dT_holds_14 : decode mT_holds.2.1 14 = .ok (.iconst 0, 1) := by decide +kernel
theorem dT_holds_15 : decode mT_holds.2.1 15 = .ok (.ireturn, 1) := by decide +kernel
theorem dT_isOfLongs_0 : decode mT_isOfLongs.2.1 0 = .ok (.aload_n 0, 1) := by decide +kernel
theorem dT_isOfLongs_1 : decode mT_isOfLongs.2.1 1 = .ok (.getfield 9, 3) := by decide +kernel
theorem dT_isOfLongs_4 : decode mT_isOfLongs.2.1 4 = .ok (.iload_n 1, 1) := by decide +kernel
theorem dT_isOfLongs_5 : decode mT_isOfLongs.2.1 5 = .ok (.iaload, 1) := by decide +kernel
theorem dT_isOfLongs_6 : decode mT_isOfLongs.2.1 6 = .ok (.iconst 3, 1) := by decide +kernel
theorem dT_isOfLongs_7 : decode mT_isOfLongs.2.1 7 = .ok (.if_icmp .ne 7, 3) := by decide +kernel
theorem dT_isOfLongs_10 : decode mT_isOfLongs.2.1 10 = .ok (.iconst 1, 1) := by decide +kernel
theorem dT_isOfLongs_11 : decode mT_isOfLongs.2.1 11 = .ok (.goto 4, 3) := by decide +kernel
theorem dT_isOfLongs_14 : decode mT_isOfLongs.2.1 14 = .ok (.iconst 0, 1) := by decide +kernel
theorem dT_isOfLongs_15 : decode mT_isOfLongs.2.1 15 = .ok (.ireturn, 1) := by decide +kernel
theorem dT_hasPlace_0 : decode mT_hasPlace.2.1 0 = .ok (.iload_n 2, 1) := by decide +kernel
theorem dT_hasPlace_1 : decode mT_hasPlace.2.1 1 = .ok (.ifCond .lt 17, 3) := by decide +kernel
theorem dT_hasPlace_4 : decode mT_hasPlace.2.1 4 = .ok (.iload_n 2, 1) := by decide +kernel
theorem dT_hasPlace_5 : decode mT_hasPlace.2.1 5 = .ok (.aload_n 0, 1) := by decide +kernel
theorem dT_hasPlace_6 : decode mT_hasPlace.2.1 6 = .ok (.getfield 15, 3) := by decide +kernel
theorem dT_hasPlace_9 : decode mT_hasPlace.2.1 9 = .ok (.iload_n 1, 1) := by decide +kernel
theorem dT_hasPlace_10 : decode mT_hasPlace.2.1 10 = .ok (.iaload, 1) := by decide +kernel
theorem dT_hasPlace_11 : decode mT_hasPlace.2.1 11 = .ok (.if_icmp .ge 7, 3) := by decide +kernel
theorem dT_hasPlace_14 : decode mT_hasPlace.2.1 14 = .ok (.iconst 1, 1) := by decide +kernel
theorem dT_hasPlace_15 : decode mT_hasPlace.2.1 15 = .ok (.goto 4, 3) := by decide +kernel
theorem dT_hasPlace_18 : decode mT_hasPlace.2.1 18 = .ok (.iconst 0, 1) := by decide +kernel
theorem dT_hasPlace_19 : decode mT_hasPlace.2.1 19 = .ok (.ireturn, 1) := by decide +kernel
theorem dT_hasPlaces_0 : decode mT_hasPlaces.2.1 0 = .ok (.iload_n 2, 1) := by decide +kernel
theorem dT_hasPlaces_1 : decode mT_hasPlaces.2.1 1 = .ok (.ifCond .lt 33, 3) := by decide +kernel
theorem dT_hasPlaces_4 : decode mT_hasPlaces.2.1 4 = .ok (.iload_n 3, 1) := by decide +kernel
theorem dT_hasPlaces_5 : decode mT_hasPlaces.2.1 5 = .ok (.ifCond .lt 29, 3) := by decide +kernel
theorem dT_hasPlaces_8 : decode mT_hasPlaces.2.1 8 = .ok (.iload_n 3, 1) := by decide +kernel
theorem dT_hasPlaces_9 : decode mT_hasPlaces.2.1 9 = .ok (.aload_n 0, 1) := by decide +kernel
theorem dT_hasPlaces_10 : decode mT_hasPlaces.2.1 10 = .ok (.getfield 15, 3) := by decide +kernel
theorem dT_hasPlaces_13 : decode mT_hasPlaces.2.1 13 = .ok (.iload_n 1, 1) := by decide +kernel
theorem dT_hasPlaces_14 : decode mT_hasPlaces.2.1 14 = .ok (.iaload, 1) := by decide +kernel
theorem dT_hasPlaces_15 : decode mT_hasPlaces.2.1 15 = .ok (.if_icmp .gt 19, 3) := by decide +kernel
theorem dT_hasPlaces_18 : decode mT_hasPlaces.2.1 18 = .ok (.iload_n 2, 1) := by decide +kernel
theorem dT_hasPlaces_19 : decode mT_hasPlaces.2.1 19 = .ok (.aload_n 0, 1) := by decide +kernel
theorem dT_hasPlaces_20 : decode mT_hasPlaces.2.1 20 = .ok (.getfield 15, 3) := by decide +kernel
theorem dT_hasPlaces_23 : decode mT_hasPlaces.2.1 23 = .ok (.iload_n 1, 1) := by decide +kernel
theorem dT_hasPlaces_24 : decode mT_hasPlaces.2.1 24 = .ok (.iaload, 1) := by decide +kernel
theorem dT_hasPlaces_25 : decode mT_hasPlaces.2.1 25 = .ok (.iload_n 3, 1) := by decide +kernel
theorem dT_hasPlaces_26 : decode mT_hasPlaces.2.1 26 = .ok (.isub, 1) := by decide +kernel
theorem dT_hasPlaces_27 : decode mT_hasPlaces.2.1 27 = .ok (.if_icmp .gt 7, 3) := by decide +kernel
theorem dT_hasPlaces_30 : decode mT_hasPlaces.2.1 30 = .ok (.iconst 1, 1) := by decide +kernel
theorem dT_hasPlaces_31 : decode mT_hasPlaces.2.1 31 = .ok (.goto 4, 3) := by decide +kernel
theorem dT_hasPlaces_34 : decode mT_hasPlaces.2.1 34 = .ok (.iconst 0, 1) := by decide +kernel
theorem dT_hasPlaces_35 : decode mT_hasPlaces.2.1 35 = .ok (.ireturn, 1) := by decide +kernel
theorem dT_remake_0 : decode mT_remake.2.1 0 = .ok (.aload_n 0, 1) := by decide +kernel
theorem dT_remake_1 : decode mT_remake.2.1 1 = .ok (.getfield 9, 3) := by decide +kernel
theorem dT_remake_4 : decode mT_remake.2.1 4 = .ok (.iload_n 1, 1) := by decide +kernel
theorem dT_remake_5 : decode mT_remake.2.1 5 = .ok (.iload_n 2, 1) := by decide +kernel
theorem dT_remake_6 : decode mT_remake.2.1 6 = .ok (.iastore, 1) := by decide +kernel
theorem dT_remake_7 : decode mT_remake.2.1 7 = .ok (.aload_n 0, 1) := by decide +kernel
theorem dT_remake_8 : decode mT_remake.2.1 8 = .ok (.getfield 15, 3) := by decide +kernel
theorem dT_remake_11 : decode mT_remake.2.1 11 = .ok (.iload_n 1, 1) := by decide +kernel
theorem dT_remake_12 : decode mT_remake.2.1 12 = .ok (.iload_n 3, 1) := by decide +kernel
theorem dT_remake_13 : decode mT_remake.2.1 13 = .ok (.iastore, 1) := by decide +kernel
theorem dT_remake_14 : decode mT_remake.2.1 14 = .ok (.iconst 0, 1) := by decide +kernel
theorem dT_remake_15 : decode mT_remake.2.1 15 = .ok (.istore 4, 2) := by decide +kernel
theorem dT_remake_17 : decode mT_remake.2.1 17 = .ok (.iload 4, 2) := by decide +kernel
theorem dT_remake_19 : decode mT_remake.2.1 19 = .ok (.bipush 60, 2) := by decide +kernel
theorem dT_remake_21 : decode mT_remake.2.1 21 = .ok (.if_icmp .ge 19, 3) := by decide +kernel
theorem dT_remake_24 : decode mT_remake.2.1 24 = .ok (.aload_n 0, 1) := by decide +kernel
theorem dT_remake_25 : decode mT_remake.2.1 25 = .ok (.getfield 20, 3) := by decide +kernel
theorem dT_remake_28 : decode mT_remake.2.1 28 = .ok (.iload_n 1, 1) := by decide +kernel
theorem dT_remake_29 : decode mT_remake.2.1 29 = .ok (.aaload, 1) := by decide +kernel
theorem dT_remake_30 : decode mT_remake.2.1 30 = .ok (.iload 4, 2) := by decide +kernel
theorem dT_remake_32 : decode mT_remake.2.1 32 = .ok (.lconst 0, 1) := by decide +kernel
theorem dT_remake_33 : decode mT_remake.2.1 33 = .ok (.lastore, 1) := by decide +kernel
theorem dT_remake_34 : decode mT_remake.2.1 34 = .ok (.iinc 4 1, 3) := by decide +kernel
theorem dT_remake_37 : decode mT_remake.2.1 37 = .ok (.goto (-20), 3) := by decide +kernel
theorem dT_remake_40 : decode mT_remake.2.1 40 = .ok (.return_, 1) := by decide +kernel
theorem dT_put_0 : decode mT_put.2.1 0 = .ok (.aload_n 0, 1) := by decide +kernel
theorem dT_put_1 : decode mT_put.2.1 1 = .ok (.getfield 20, 3) := by decide +kernel
theorem dT_put_4 : decode mT_put.2.1 4 = .ok (.iload_n 1, 1) := by decide +kernel
theorem dT_put_5 : decode mT_put.2.1 5 = .ok (.aaload, 1) := by decide +kernel
theorem dT_put_6 : decode mT_put.2.1 6 = .ok (.iload_n 2, 1) := by decide +kernel
theorem dT_put_7 : decode mT_put.2.1 7 = .ok (.aload_n 0, 1) := by decide +kernel
theorem dT_put_8 : decode mT_put.2.1 8 = .ok (.getfield 9, 3) := by decide +kernel
theorem dT_put_11 : decode mT_put.2.1 11 = .ok (.iload_n 1, 1) := by decide +kernel
theorem dT_put_12 : decode mT_put.2.1 12 = .ok (.iaload, 1) := by decide +kernel
theorem dT_put_13 : decode mT_put.2.1 13 = .ok (.lload_n 3, 1) := by decide +kernel
theorem dT_put_14 : decode mT_put.2.1 14 = .ok (.invokestatic 23, 3) := by decide +kernel
theorem dT_put_17 : decode mT_put.2.1 17 = .ok (.lastore, 1) := by decide +kernel
theorem dT_put_18 : decode mT_put.2.1 18 = .ok (.return_, 1) := by decide +kernel
theorem dT_valueAt_0 : decode mT_valueAt.2.1 0 = .ok (.aload_n 0, 1) := by decide +kernel
theorem dT_valueAt_1 : decode mT_valueAt.2.1 1 = .ok (.getfield 20, 3) := by decide +kernel
theorem dT_valueAt_4 : decode mT_valueAt.2.1 4 = .ok (.iload_n 1, 1) := by decide +kernel
theorem dT_valueAt_5 : decode mT_valueAt.2.1 5 = .ok (.aaload, 1) := by decide +kernel
theorem dT_valueAt_6 : decode mT_valueAt.2.1 6 = .ok (.iload_n 2, 1) := by decide +kernel
theorem dT_valueAt_7 : decode mT_valueAt.2.1 7 = .ok (.laload, 1) := by decide +kernel
theorem dT_valueAt_8 : decode mT_valueAt.2.1 8 = .ok (.lreturn, 1) := by decide +kernel
theorem dT_cut_0 : decode mT_cut.2.1 0 = .ok (.iload_n 0, 1) := by decide +kernel
theorem dT_cut_1 : decode mT_cut.2.1 1 = .ok (.tableswitch 61 0 4 #[35, 40, 45, 61, 49], 35) := by decide +kernel
theorem dT_cut_36 : decode mT_cut.2.1 36 = .ok (.lload_n 1, 1) := by decide +kernel
theorem dT_cut_37 : decode mT_cut.2.1 37 = .ok (.l2i, 1) := by decide +kernel
theorem dT_cut_38 : decode mT_cut.2.1 38 = .ok (.i2b, 1) := by decide +kernel
theorem dT_cut_39 : decode mT_cut.2.1 39 = .ok (.i2l, 1) := by decide +kernel
theorem dT_cut_40 : decode mT_cut.2.1 40 = .ok (.lreturn, 1) := by decide +kernel
theorem dT_cut_41 : decode mT_cut.2.1 41 = .ok (.lload_n 1, 1) := by decide +kernel
theorem dT_cut_42 : decode mT_cut.2.1 42 = .ok (.l2i, 1) := by decide +kernel
theorem dT_cut_43 : decode mT_cut.2.1 43 = .ok (.i2s, 1) := by decide +kernel
theorem dT_cut_44 : decode mT_cut.2.1 44 = .ok (.i2l, 1) := by decide +kernel
theorem dT_cut_45 : decode mT_cut.2.1 45 = .ok (.lreturn, 1) := by decide +kernel
theorem dT_cut_46 : decode mT_cut.2.1 46 = .ok (.lload_n 1, 1) := by decide +kernel
theorem dT_cut_47 : decode mT_cut.2.1 47 = .ok (.l2i, 1) := by decide +kernel
theorem dT_cut_48 : decode mT_cut.2.1 48 = .ok (.i2l, 1) := by decide +kernel
theorem dT_cut_49 : decode mT_cut.2.1 49 = .ok (.lreturn, 1) := by decide +kernel
theorem dT_cut_50 : decode mT_cut.2.1 50 = .ok (.lload_n 1, 1) := by decide +kernel
theorem dT_cut_51 : decode mT_cut.2.1 51 = .ok (.lconst 0, 1) := by decide +kernel
theorem dT_cut_52 : decode mT_cut.2.1 52 = .ok (.lcmp, 1) := by decide +kernel
theorem dT_cut_53 : decode mT_cut.2.1 53 = .ok (.ifCond .eq 7, 3) := by decide +kernel
theorem dT_cut_56 : decode mT_cut.2.1 56 = .ok (.lconst 1, 1) := by decide +kernel
theorem dT_cut_57 : decode mT_cut.2.1 57 = .ok (.goto 4, 3) := by decide +kernel
theorem dT_cut_60 : decode mT_cut.2.1 60 = .ok (.lconst 0, 1) := by decide +kernel
theorem dT_cut_61 : decode mT_cut.2.1 61 = .ok (.lreturn, 1) := by decide +kernel
theorem dT_cut_62 : decode mT_cut.2.1 62 = .ok (.lload_n 1, 1) := by decide +kernel
theorem dT_cut_63 : decode mT_cut.2.1 63 = .ok (.lreturn, 1) := by decide +kernel
theorem dG_init_0 : decode mG_init.2.1 0 = .ok (.aload_n 0, 1) := by decide +kernel
theorem dG_init_1 : decode mG_init.2.1 1 = .ok (.invokespecial 3, 3) := by decide +kernel
theorem dG_init_4 : decode mG_init.2.1 4 = .ok (.aload_n 0, 1) := by decide +kernel
theorem dG_init_5 : decode mG_init.2.1 5 = .ok (.new 9, 3) := by decide +kernel
theorem dG_init_8 : decode mG_init.2.1 8 = .ok (.dup, 1) := by decide +kernel
theorem dG_init_9 : decode mG_init.2.1 9 = .ok (.invokespecial 11, 3) := by decide +kernel
theorem dG_init_12 : decode mG_init.2.1 12 = .ok (.putfield 12, 3) := by decide +kernel
theorem dG_init_15 : decode mG_init.2.1 15 = .ok (.aload_n 0, 1) := by decide +kernel
theorem dG_init_16 : decode mG_init.2.1 16 = .ok (.new 9, 3) := by decide +kernel
theorem dG_init_19 : decode mG_init.2.1 19 = .ok (.dup, 1) := by decide +kernel
theorem dG_init_20 : decode mG_init.2.1 20 = .ok (.invokespecial 11, 3) := by decide +kernel
theorem dG_init_23 : decode mG_init.2.1 23 = .ok (.putfield 18, 3) := by decide +kernel
theorem dG_init_26 : decode mG_init.2.1 26 = .ok (.aload_n 0, 1) := by decide +kernel
theorem dG_init_27 : decode mG_init.2.1 27 = .ok (.new 21, 3) := by decide +kernel
theorem dG_init_30 : decode mG_init.2.1 30 = .ok (.dup, 1) := by decide +kernel
theorem dG_init_31 : decode mG_init.2.1 31 = .ok (.invokespecial 23, 3) := by decide +kernel
theorem dG_init_34 : decode mG_init.2.1 34 = .ok (.putfield 24, 3) := by decide +kernel
theorem dG_init_37 : decode mG_init.2.1 37 = .ok (.aload_n 0, 1) := by decide +kernel
theorem dG_init_38 : decode mG_init.2.1 38 = .ok (.new 28, 3) := by decide +kernel
theorem dG_init_41 : decode mG_init.2.1 41 = .ok (.dup, 1) := by decide +kernel
theorem dG_init_42 : decode mG_init.2.1 42 = .ok (.aload_n 0, 1) := by decide +kernel
theorem dG_init_43 : decode mG_init.2.1 43 = .ok (.getfield 12, 3) := by decide +kernel
theorem dG_init_46 : decode mG_init.2.1 46 = .ok (.aload_n 0, 1) := by decide +kernel
theorem dG_init_47 : decode mG_init.2.1 47 = .ok (.getfield 24, 3) := by decide +kernel
theorem dG_init_50 : decode mG_init.2.1 50 = .ok (.invokespecial 30, 3) := by decide +kernel
theorem dG_init_53 : decode mG_init.2.1 53 = .ok (.putfield 33, 3) := by decide +kernel
theorem dG_init_56 : decode mG_init.2.1 56 = .ok (.aload_n 0, 1) := by decide +kernel
theorem dG_init_57 : decode mG_init.2.1 57 = .ok (.new 37, 3) := by decide +kernel
theorem dG_init_60 : decode mG_init.2.1 60 = .ok (.dup, 1) := by decide +kernel
theorem dG_init_61 : decode mG_init.2.1 61 = .ok (.aload_n 0, 1) := by decide +kernel
theorem dG_init_62 : decode mG_init.2.1 62 = .ok (.getfield 12, 3) := by decide +kernel
theorem dG_init_65 : decode mG_init.2.1 65 = .ok (.aload_n 0, 1) := by decide +kernel
theorem dG_init_66 : decode mG_init.2.1 66 = .ok (.getfield 33, 3) := by decide +kernel
theorem dG_init_69 : decode mG_init.2.1 69 = .ok (.invokespecial 39, 3) := by decide +kernel
theorem dG_init_72 : decode mG_init.2.1 72 = .ok (.putfield 42, 3) := by decide +kernel
theorem dG_init_75 : decode mG_init.2.1 75 = .ok (.aload_n 0, 1) := by decide +kernel
theorem dG_init_76 : decode mG_init.2.1 76 = .ok (.new 46, 3) := by decide +kernel
theorem dG_init_79 : decode mG_init.2.1 79 = .ok (.dup, 1) := by decide +kernel
theorem dG_init_80 : decode mG_init.2.1 80 = .ok (.invokespecial 48, 3) := by decide +kernel
theorem dG_init_83 : decode mG_init.2.1 83 = .ok (.putfield 49, 3) := by decide +kernel
theorem dG_init_86 : decode mG_init.2.1 86 = .ok (.aload_n 0, 1) := by decide +kernel
theorem dG_init_87 : decode mG_init.2.1 87 = .ok (.new 53, 3) := by decide +kernel
theorem dG_init_90 : decode mG_init.2.1 90 = .ok (.dup, 1) := by decide +kernel
theorem dG_init_91 : decode mG_init.2.1 91 = .ok (.invokespecial 55, 3) := by decide +kernel
theorem dG_init_94 : decode mG_init.2.1 94 = .ok (.putfield 56, 3) := by decide +kernel
theorem dG_init_97 : decode mG_init.2.1 97 = .ok (.return_, 1) := by decide +kernel
theorem dG_world_0 : decode mG_world.2.1 0 = .ok (.iload_n 1, 1) := by decide +kernel
theorem dG_world_1 : decode mG_world.2.1 1 = .ok (.invokestatic 60, 3) := by decide +kernel
theorem dG_world_4 : decode mG_world.2.1 4 = .ok (.ifCond .ne 6, 3) := by decide +kernel
theorem dG_world_7 : decode mG_world.2.1 7 = .ok (.bipush (-2), 2) := by decide +kernel
theorem dG_world_9 : decode mG_world.2.1 9 = .ok (.ireturn, 1) := by decide +kernel
theorem dG_world_10 : decode mG_world.2.1 10 = .ok (.aload_n 0, 1) := by decide +kernel
theorem dG_world_11 : decode mG_world.2.1 11 = .ok (.getfield 12, 3) := by decide +kernel
theorem dG_world_14 : decode mG_world.2.1 14 = .ok (.iload_n 1, 1) := by decide +kernel
theorem dG_world_15 : decode mG_world.2.1 15 = .ok (.invokevirtual 64, 3) := by decide +kernel
theorem dG_world_18 : decode mG_world.2.1 18 = .ok (.ireturn, 1) := by decide +kernel
theorem dG_chance_0 : decode mG_chance.2.1 0 = .ok (.aload_n 0, 1) := by decide +kernel
theorem dG_chance_1 : decode mG_chance.2.1 1 = .ok (.getfield 12, 3) := by decide +kernel
theorem dG_chance_4 : decode mG_chance.2.1 4 = .ok (.iload_n 1, 1) := by decide +kernel
theorem dG_chance_5 : decode mG_chance.2.1 5 = .ok (.invokevirtual 68, 3) := by decide +kernel
theorem dG_chance_8 : decode mG_chance.2.1 8 = .ok (.ifCond .ne 5, 3) := by decide +kernel
theorem dG_chance_11 : decode mG_chance.2.1 11 = .ok (.iconst (-1), 1) := by decide +kernel
theorem dG_chance_12 : decode mG_chance.2.1 12 = .ok (.ireturn, 1) := by decide +kernel
theorem dG_chance_13 : decode mG_chance.2.1 13 = .ok (.iload_n 2, 1) := by decide +kernel
theorem dG_chance_14 : decode mG_chance.2.1 14 = .ok (.invokestatic 60, 3) := by decide +kernel
theorem dG_chance_17 : decode mG_chance.2.1 17 = .ok (.ifCond .ne 6, 3) := by decide +kernel
theorem dG_chance_20 : decode mG_chance.2.1 20 = .ok (.bipush (-2), 2) := by decide +kernel
theorem dG_chance_22 : decode mG_chance.2.1 22 = .ok (.ireturn, 1) := by decide +kernel
theorem dG_chance_23 : decode mG_chance.2.1 23 = .ok (.aload_n 0, 1) := by decide +kernel
theorem dG_chance_24 : decode mG_chance.2.1 24 = .ok (.getfield 12, 3) := by decide +kernel
theorem dG_chance_27 : decode mG_chance.2.1 27 = .ok (.getfield 71, 3) := by decide +kernel
theorem dG_chance_30 : decode mG_chance.2.1 30 = .ok (.iload_n 1, 1) := by decide +kernel
theorem dG_chance_31 : decode mG_chance.2.1 31 = .ok (.iaload, 1) := by decide +kernel
theorem dG_chance_32 : decode mG_chance.2.1 32 = .ok (.istore_n 3, 1) := by decide +kernel
theorem dG_chance_33 : decode mG_chance.2.1 33 = .ok (.aload_n 0, 1) := by decide +kernel
theorem dG_chance_34 : decode mG_chance.2.1 34 = .ok (.getfield 12, 3) := by decide +kernel
theorem dG_chance_37 : decode mG_chance.2.1 37 = .ok (.getfield 71, 3) := by decide +kernel
theorem dG_chance_40 : decode mG_chance.2.1 40 = .ok (.iload_n 1, 1) := by decide +kernel
theorem dG_chance_41 : decode mG_chance.2.1 41 = .ok (.iload_n 2, 1) := by decide +kernel
theorem dG_chance_42 : decode mG_chance.2.1 42 = .ok (.iastore, 1) := by decide +kernel
theorem dG_chance_43 : decode mG_chance.2.1 43 = .ok (.iload_n 3, 1) := by decide +kernel
theorem dG_chance_44 : decode mG_chance.2.1 44 = .ok (.ireturn, 1) := by decide +kernel
theorem dG_envelope_0 : decode mG_envelope.2.1 0 = .ok (.iload_n 1, 1) := by decide +kernel
theorem dG_envelope_1 : decode mG_envelope.2.1 1 = .ok (.bipush 6, 2) := by decide +kernel
theorem dG_envelope_3 : decode mG_envelope.2.1 3 = .ok (.invokestatic 75, 3) := by decide +kernel
theorem dG_envelope_6 : decode mG_envelope.2.1 6 = .ok (.ifCond .ne 5, 3) := by decide +kernel
theorem dG_envelope_9 : decode mG_envelope.2.1 9 = .ok (.iconst (-1), 1) := by decide +kernel
theorem dG_envelope_10 : decode mG_envelope.2.1 10 = .ok (.ireturn, 1) := by decide +kernel
theorem dG_envelope_11 : decode mG_envelope.2.1 11 = .ok (.iload_n 2, 1) := by decide +kernel
theorem dG_envelope_12 : decode mG_envelope.2.1 12 = .ok (.bipush 9, 2) := by decide +kernel
theorem dG_envelope_14 : decode mG_envelope.2.1 14 = .ok (.invokestatic 75, 3) := by decide +kernel
theorem dG_envelope_17 : decode mG_envelope.2.1 17 = .ok (.ifCond .eq 27, 3) := by decide +kernel
theorem dG_envelope_20 : decode mG_envelope.2.1 20 = .ok (.iload_n 3, 1) := by decide +kernel
theorem dG_envelope_21 : decode mG_envelope.2.1 21 = .ok (.aload_n 0, 1) := by decide +kernel
theorem dG_envelope_22 : decode mG_envelope.2.1 22 = .ok (.getfield 12, 3) := by decide +kernel
theorem dG_envelope_25 : decode mG_envelope.2.1 25 = .ok (.getfield 79, 3) := by decide +kernel
theorem dG_envelope_28 : decode mG_envelope.2.1 28 = .ok (.invokestatic 83, 3) := by decide +kernel
theorem dG_envelope_31 : decode mG_envelope.2.1 31 = .ok (.ifCond .eq 13, 3) := by decide +kernel
theorem dG_envelope_34 : decode mG_envelope.2.1 34 = .ok (.iload 4, 2) := by decide +kernel
theorem dG_envelope_36 : decode mG_envelope.2.1 36 = .ok (.bipush 99, 2) := by decide +kernel
theorem dG_envelope_38 : decode mG_envelope.2.1 38 = .ok (.invokestatic 75, 3) := by decide +kernel
theorem dG_envelope_41 : decode mG_envelope.2.1 41 = .ok (.ifCond .ne 6, 3) := by decide +kernel
theorem dG_envelope_44 : decode mG_envelope.2.1 44 = .ok (.bipush (-2), 2) := by decide +kernel
theorem dG_envelope_46 : decode mG_envelope.2.1 46 = .ok (.ireturn, 1) := by decide +kernel
theorem dG_envelope_47 : decode mG_envelope.2.1 47 = .ok (.aload_n 0, 1) := by decide +kernel
theorem dG_envelope_48 : decode mG_envelope.2.1 48 = .ok (.getfield 12, 3) := by decide +kernel
theorem dG_envelope_51 : decode mG_envelope.2.1 51 = .ok (.iload_n 1, 1) := by decide +kernel
theorem dG_envelope_52 : decode mG_envelope.2.1 52 = .ok (.iload_n 2, 1) := by decide +kernel
theorem dG_envelope_53 : decode mG_envelope.2.1 53 = .ok (.iload_n 3, 1) := by decide +kernel
theorem dG_envelope_54 : decode mG_envelope.2.1 54 = .ok (.iload 4, 2) := by decide +kernel
theorem dG_envelope_56 : decode mG_envelope.2.1 56 = .ok (.invokevirtual 86, 3) := by decide +kernel
theorem dG_envelope_59 : decode mG_envelope.2.1 59 = .ok (.ireturn, 1) := by decide +kernel
theorem dG_of_0 : decode mG_of.2.1 0 = .ok (.aload_n 0, 1) := by decide +kernel
theorem dG_of_1 : decode mG_of.2.1 1 = .ok (.getfield 12, 3) := by decide +kernel
theorem dG_of_4 : decode mG_of.2.1 4 = .ok (.iload_n 1, 1) := by decide +kernel
theorem dG_of_5 : decode mG_of.2.1 5 = .ok (.invokevirtual 90, 3) := by decide +kernel
theorem dG_of_8 : decode mG_of.2.1 8 = .ok (.astore_n 3, 1) := by decide +kernel
theorem dG_of_9 : decode mG_of.2.1 9 = .ok (.aload_n 3, 1) := by decide +kernel
theorem dG_of_10 : decode mG_of.2.1 10 = .ok (.ifnonnull 5, 3) := by decide +kernel
theorem dG_of_13 : decode mG_of.2.1 13 = .ok (.iconst (-1), 1) := by decide +kernel
theorem dG_of_14 : decode mG_of.2.1 14 = .ok (.ireturn, 1) := by decide +kernel
theorem dG_of_15 : decode mG_of.2.1 15 = .ok (.iload_n 2, 1) := by decide +kernel
theorem dG_of_16 : decode mG_of.2.1 16 = .ok (.tableswitch 69 0 4 #[36, 41, 46, 51, 56], 36) := by decide +kernel
theorem dG_of_52 : decode mG_of.2.1 52 = .ok (.aload_n 3, 1) := by decide +kernel
theorem dG_of_53 : decode mG_of.2.1 53 = .ok (.getfield 94, 3) := by decide +kernel
theorem dG_of_56 : decode mG_of.2.1 56 = .ok (.ireturn, 1) := by decide +kernel
theorem dG_of_57 : decode mG_of.2.1 57 = .ok (.aload_n 3, 1) := by decide +kernel
theorem dG_of_58 : decode mG_of.2.1 58 = .ok (.getfield 99, 3) := by decide +kernel
theorem dG_of_61 : decode mG_of.2.1 61 = .ok (.ireturn, 1) := by decide +kernel
theorem dG_of_62 : decode mG_of.2.1 62 = .ok (.aload_n 3, 1) := by decide +kernel
theorem dG_of_63 : decode mG_of.2.1 63 = .ok (.getfield 102, 3) := by decide +kernel
theorem dG_of_66 : decode mG_of.2.1 66 = .ok (.ireturn, 1) := by decide +kernel
theorem dG_of_67 : decode mG_of.2.1 67 = .ok (.aload_n 3, 1) := by decide +kernel
theorem dG_of_68 : decode mG_of.2.1 68 = .ok (.getfield 105, 3) := by decide +kernel
theorem dG_of_71 : decode mG_of.2.1 71 = .ok (.ireturn, 1) := by decide +kernel
theorem dG_of_72 : decode mG_of.2.1 72 = .ok (.aload_n 0, 1) := by decide +kernel
theorem dG_of_73 : decode mG_of.2.1 73 = .ok (.getfield 12, 3) := by decide +kernel
theorem dG_of_76 : decode mG_of.2.1 76 = .ok (.getfield 108, 3) := by decide +kernel
theorem dG_of_79 : decode mG_of.2.1 79 = .ok (.aload_n 3, 1) := by decide +kernel
theorem dG_of_80 : decode mG_of.2.1 80 = .ok (.getfield 111, 3) := by decide +kernel
theorem dG_of_83 : decode mG_of.2.1 83 = .ok (.isub, 1) := by decide +kernel
theorem dG_of_84 : decode mG_of.2.1 84 = .ok (.ireturn, 1) := by decide +kernel
theorem dG_of_85 : decode mG_of.2.1 85 = .ok (.iconst (-1), 1) := by decide +kernel
theorem dG_of_86 : decode mG_of.2.1 86 = .ok (.ireturn, 1) := by decide +kernel
theorem dG_price_0 : decode mG_price.2.1 0 = .ok (.aload_n 0, 1) := by decide +kernel
theorem dG_price_1 : decode mG_price.2.1 1 = .ok (.getfield 12, 3) := by decide +kernel
theorem dG_price_4 : decode mG_price.2.1 4 = .ok (.iload_n 1, 1) := by decide +kernel
theorem dG_price_5 : decode mG_price.2.1 5 = .ok (.invokevirtual 90, 3) := by decide +kernel
theorem dG_price_8 : decode mG_price.2.1 8 = .ok (.astore_n 3, 1) := by decide +kernel
theorem dG_price_9 : decode mG_price.2.1 9 = .ok (.aload_n 3, 1) := by decide +kernel
theorem dG_price_10 : decode mG_price.2.1 10 = .ok (.ifnonnull 5, 3) := by decide +kernel
theorem dG_price_13 : decode mG_price.2.1 13 = .ok (.iconst (-1), 1) := by decide +kernel
theorem dG_price_14 : decode mG_price.2.1 14 = .ok (.ireturn, 1) := by decide +kernel
theorem dG_price_15 : decode mG_price.2.1 15 = .ok (.iload_n 2, 1) := by decide +kernel
theorem dG_price_16 : decode mG_price.2.1 16 = .ok (.bipush 99, 2) := by decide +kernel
theorem dG_price_18 : decode mG_price.2.1 18 = .ok (.invokestatic 75, 3) := by decide +kernel
theorem dG_price_21 : decode mG_price.2.1 21 = .ok (.ifCond .ne 6, 3) := by decide +kernel
theorem dG_price_24 : decode mG_price.2.1 24 = .ok (.bipush (-2), 2) := by decide +kernel
theorem dG_price_26 : decode mG_price.2.1 26 = .ok (.ireturn, 1) := by decide +kernel
theorem dG_price_27 : decode mG_price.2.1 27 = .ok (.aload_n 3, 1) := by decide +kernel
theorem dG_price_28 : decode mG_price.2.1 28 = .ok (.getfield 105, 3) := by decide +kernel
theorem dG_price_31 : decode mG_price.2.1 31 = .ok (.istore 4, 2) := by decide +kernel
theorem dG_price_33 : decode mG_price.2.1 33 = .ok (.aload_n 3, 1) := by decide +kernel
theorem dG_price_34 : decode mG_price.2.1 34 = .ok (.iload_n 2, 1) := by decide +kernel
theorem dG_price_35 : decode mG_price.2.1 35 = .ok (.putfield 105, 3) := by decide +kernel
theorem dG_price_38 : decode mG_price.2.1 38 = .ok (.iload 4, 2) := by decide +kernel
theorem dG_price_40 : decode mG_price.2.1 40 = .ok (.ireturn, 1) := by decide +kernel
theorem dG_say_0 : decode mG_say.2.1 0 = .ok (.aload_n 0, 1) := by decide +kernel
theorem dG_say_1 : decode mG_say.2.1 1 = .ok (.getfield 12, 3) := by decide +kernel
theorem dG_say_4 : decode mG_say.2.1 4 = .ok (.iload_n 1, 1) := by decide +kernel
theorem dG_say_5 : decode mG_say.2.1 5 = .ok (.invokevirtual 90, 3) := by decide +kernel
theorem dG_say_8 : decode mG_say.2.1 8 = .ok (.astore_n 3, 1) := by decide +kernel
theorem dG_say_9 : decode mG_say.2.1 9 = .ok (.aload_n 3, 1) := by decide +kernel
theorem dG_say_10 : decode mG_say.2.1 10 = .ok (.ifnonnull 5, 3) := by decide +kernel
theorem dG_say_13 : decode mG_say.2.1 13 = .ok (.iconst (-1), 1) := by decide +kernel
theorem dG_say_14 : decode mG_say.2.1 14 = .ok (.ireturn, 1) := by decide +kernel
theorem dG_say_15 : decode mG_say.2.1 15 = .ok (.iload_n 2, 1) := by decide +kernel
theorem dG_say_16 : decode mG_say.2.1 16 = .ok (.aload_n 0, 1) := by decide +kernel
theorem dG_say_17 : decode mG_say.2.1 17 = .ok (.getfield 12, 3) := by decide +kernel
theorem dG_say_20 : decode mG_say.2.1 20 = .ok (.getfield 79, 3) := by decide +kernel
theorem dG_say_23 : decode mG_say.2.1 23 = .ok (.invokestatic 83, 3) := by decide +kernel
theorem dG_say_26 : decode mG_say.2.1 26 = .ok (.ifCond .ne 6, 3) := by decide +kernel
theorem dG_say_29 : decode mG_say.2.1 29 = .ok (.bipush (-2), 2) := by decide +kernel
theorem dG_say_31 : decode mG_say.2.1 31 = .ok (.ireturn, 1) := by decide +kernel
theorem dG_say_32 : decode mG_say.2.1 32 = .ok (.aload_n 3, 1) := by decide +kernel
theorem dG_say_33 : decode mG_say.2.1 33 = .ok (.getfield 102, 3) := by decide +kernel
theorem dG_say_36 : decode mG_say.2.1 36 = .ok (.istore 4, 2) := by decide +kernel
theorem dG_say_38 : decode mG_say.2.1 38 = .ok (.aload_n 3, 1) := by decide +kernel
theorem dG_say_39 : decode mG_say.2.1 39 = .ok (.iload_n 2, 1) := by decide +kernel
theorem dG_say_40 : decode mG_say.2.1 40 = .ok (.putfield 102, 3) := by decide +kernel
theorem dG_say_43 : decode mG_say.2.1 43 = .ok (.iload 4, 2) := by decide +kernel
theorem dG_say_45 : decode mG_say.2.1 45 = .ok (.ireturn, 1) := by decide +kernel
theorem dG_row_0 : decode mG_row.2.1 0 = .ok (.aload_n 0, 1) := by decide +kernel
theorem dG_row_1 : decode mG_row.2.1 1 = .ok (.getfield 12, 3) := by decide +kernel
theorem dG_row_4 : decode mG_row.2.1 4 = .ok (.iload_n 1, 1) := by decide +kernel
theorem dG_row_5 : decode mG_row.2.1 5 = .ok (.invokevirtual 90, 3) := by decide +kernel
theorem dG_row_8 : decode mG_row.2.1 8 = .ok (.astore 4, 2) := by decide +kernel
theorem dG_row_10 : decode mG_row.2.1 10 = .ok (.aload 4, 2) := by decide +kernel
theorem dG_row_12 : decode mG_row.2.1 12 = .ok (.ifnull 12, 3) := by decide +kernel
theorem dG_row_15 : decode mG_row.2.1 15 = .ok (.iload_n 2, 1) := by decide +kernel
theorem dG_row_16 : decode mG_row.2.1 16 = .ok (.ifCond .lt 8, 3) := by decide +kernel
theorem dG_row_19 : decode mG_row.2.1 19 = .ok (.iload_n 2, 1) := by decide +kernel
theorem dG_row_20 : decode mG_row.2.1 20 = .ok (.iconst 4, 1) := by decide +kernel
theorem dG_row_21 : decode mG_row.2.1 21 = .ok (.if_icmp .lt 5, 3) := by decide +kernel
theorem dG_row_24 : decode mG_row.2.1 24 = .ok (.iconst (-1), 1) := by decide +kernel
theorem dG_row_25 : decode mG_row.2.1 25 = .ok (.ireturn, 1) := by decide +kernel
theorem dG_row_26 : decode mG_row.2.1 26 = .ok (.iload_n 3, 1) := by decide +kernel
theorem dG_row_27 : decode mG_row.2.1 27 = .ok (.bipush 9, 2) := by decide +kernel
theorem dG_row_29 : decode mG_row.2.1 29 = .ok (.invokestatic 75, 3) := by decide +kernel
theorem dG_row_32 : decode mG_row.2.1 32 = .ok (.ifCond .ne 6, 3) := by decide +kernel
theorem dG_row_35 : decode mG_row.2.1 35 = .ok (.bipush (-2), 2) := by decide +kernel
theorem dG_row_37 : decode mG_row.2.1 37 = .ok (.ireturn, 1) := by decide +kernel
theorem dG_row_38 : decode mG_row.2.1 38 = .ok (.aload 4, 2) := by decide +kernel
theorem dG_row_40 : decode mG_row.2.1 40 = .ok (.getfield 94, 3) := by decide +kernel
theorem dG_row_43 : decode mG_row.2.1 43 = .ok (.bipush 6, 2) := by decide +kernel
theorem dG_row_45 : decode mG_row.2.1 45 = .ok (.if_icmp .eq 6, 3) := by decide +kernel
theorem dG_row_48 : decode mG_row.2.1 48 = .ok (.bipush (-3), 2) := by decide +kernel
theorem dG_row_50 : decode mG_row.2.1 50 = .ok (.ireturn, 1) := by decide +kernel
theorem dG_row_51 : decode mG_row.2.1 51 = .ok (.aload 4, 2) := by decide +kernel
theorem dG_row_53 : decode mG_row.2.1 53 = .ok (.getfield 114, 3) := by decide +kernel
theorem dG_row_56 : decode mG_row.2.1 56 = .ok (.iload_n 2, 1) := by decide +kernel
theorem dG_row_57 : decode mG_row.2.1 57 = .ok (.iaload, 1) := by decide +kernel
theorem dG_row_58 : decode mG_row.2.1 58 = .ok (.istore 5, 2) := by decide +kernel
theorem dG_row_60 : decode mG_row.2.1 60 = .ok (.aload 4, 2) := by decide +kernel
theorem dG_row_62 : decode mG_row.2.1 62 = .ok (.getfield 114, 3) := by decide +kernel
theorem dG_row_65 : decode mG_row.2.1 65 = .ok (.iload_n 2, 1) := by decide +kernel
theorem dG_row_66 : decode mG_row.2.1 66 = .ok (.iload_n 3, 1) := by decide +kernel
theorem dG_row_67 : decode mG_row.2.1 67 = .ok (.iastore, 1) := by decide +kernel
theorem dG_row_68 : decode mG_row.2.1 68 = .ok (.iload 5, 2) := by decide +kernel
theorem dG_row_70 : decode mG_row.2.1 70 = .ok (.ireturn, 1) := by decide +kernel
theorem dG_feed_0 : decode mG_feed.2.1 0 = .ok (.iload_n 1, 1) := by decide +kernel
theorem dG_feed_1 : decode mG_feed.2.1 1 = .ok (.bipush 127, 2) := by decide +kernel
theorem dG_feed_3 : decode mG_feed.2.1 3 = .ok (.invokestatic 75, 3) := by decide +kernel
theorem dG_feed_6 : decode mG_feed.2.1 6 = .ok (.ifCond .ne 6, 3) := by decide +kernel
theorem dG_feed_9 : decode mG_feed.2.1 9 = .ok (.bipush (-2), 2) := by decide +kernel
theorem dG_feed_11 : decode mG_feed.2.1 11 = .ok (.ireturn, 1) := by decide +kernel
theorem dG_feed_12 : decode mG_feed.2.1 12 = .ok (.aload_n 0, 1) := by decide +kernel
theorem dG_feed_13 : decode mG_feed.2.1 13 = .ok (.getfield 24, 3) := by decide +kernel
theorem dG_feed_16 : decode mG_feed.2.1 16 = .ok (.iload_n 1, 1) := by decide +kernel
theorem dG_feed_17 : decode mG_feed.2.1 17 = .ok (.invokevirtual 117, 3) := by decide +kernel
theorem dG_feed_20 : decode mG_feed.2.1 20 = .ok (.ireturn, 1) := by decide +kernel
theorem dG_law_0 : decode mG_law.2.1 0 = .ok (.aload_n 0, 1) := by decide +kernel
theorem dG_law_1 : decode mG_law.2.1 1 = .ok (.getfield 24, 3) := by decide +kernel
theorem dG_law_4 : decode mG_law.2.1 4 = .ok (.invokevirtual 120, 3) := by decide +kernel
theorem dG_law_7 : decode mG_law.2.1 7 = .ok (.istore_n 1, 1) := by decide +kernel
theorem dG_law_8 : decode mG_law.2.1 8 = .ok (.iload_n 1, 1) := by decide +kernel
theorem dG_law_9 : decode mG_law.2.1 9 = .ok (.ifCond .lt 11, 3) := by decide +kernel
theorem dG_law_12 : decode mG_law.2.1 12 = .ok (.aload_n 0, 1) := by decide +kernel
theorem dG_law_13 : decode mG_law.2.1 13 = .ok (.getfield 12, 3) := by decide +kernel
theorem dG_law_16 : decode mG_law.2.1 16 = .ok (.iload_n 1, 1) := by decide +kernel
theorem dG_law_17 : decode mG_law.2.1 17 = .ok (.putfield 124, 3) := by decide +kernel
theorem dG_law_20 : decode mG_law.2.1 20 = .ok (.iload_n 1, 1) := by decide +kernel
theorem dG_law_21 : decode mG_law.2.1 21 = .ok (.ireturn, 1) := by decide +kernel
theorem dG_told_0 : decode mG_told.2.1 0 = .ok (.iload_n 1, 1) := by decide +kernel
theorem dG_told_1 : decode mG_told.2.1 1 = .ok (.bipush 10, 2) := by decide +kernel
theorem dG_told_3 : decode mG_told.2.1 3 = .ok (.if_icmp .lt 30, 3) := by decide +kernel
theorem dG_told_6 : decode mG_told.2.1 6 = .ok (.aload_n 0, 1) := by decide +kernel
theorem dG_told_7 : decode mG_told.2.1 7 = .ok (.getfield 12, 3) := by decide +kernel
theorem dG_told_10 : decode mG_told.2.1 10 = .ok (.iload_n 1, 1) := by decide +kernel
theorem dG_told_11 : decode mG_told.2.1 11 = .ok (.bipush 10, 2) := by decide +kernel
theorem dG_told_13 : decode mG_told.2.1 13 = .ok (.isub, 1) := by decide +kernel
theorem dG_told_14 : decode mG_told.2.1 14 = .ok (.invokevirtual 68, 3) := by decide +kernel
theorem dG_told_17 : decode mG_told.2.1 17 = .ok (.ifCond .eq 16, 3) := by decide +kernel
theorem dG_told_20 : decode mG_told.2.1 20 = .ok (.aload_n 0, 1) := by decide +kernel
theorem dG_told_21 : decode mG_told.2.1 21 = .ok (.getfield 12, 3) := by decide +kernel
theorem dG_told_24 : decode mG_told.2.1 24 = .ok (.getfield 71, 3) := by decide +kernel
theorem dG_told_27 : decode mG_told.2.1 27 = .ok (.iload_n 1, 1) := by decide +kernel
theorem dG_told_28 : decode mG_told.2.1 28 = .ok (.bipush 10, 2) := by decide +kernel
theorem dG_told_30 : decode mG_told.2.1 30 = .ok (.isub, 1) := by decide +kernel
theorem dG_told_31 : decode mG_told.2.1 31 = .ok (.iaload, 1) := by decide +kernel
theorem dG_told_32 : decode mG_told.2.1 32 = .ok (.ireturn, 1) := by decide +kernel
theorem dG_told_33 : decode mG_told.2.1 33 = .ok (.iload_n 1, 1) := by decide +kernel
theorem dG_told_34 : decode mG_told.2.1 34 = .ok (.tableswitch 76 0 3 #[30, 38, 46, 61], 30) := by decide +kernel
theorem dG_told_64 : decode mG_told.2.1 64 = .ok (.aload_n 0, 1) := by decide +kernel
theorem dG_told_65 : decode mG_told.2.1 65 = .ok (.getfield 12, 3) := by decide +kernel
theorem dG_told_68 : decode mG_told.2.1 68 = .ok (.getfield 108, 3) := by decide +kernel
theorem dG_told_71 : decode mG_told.2.1 71 = .ok (.ireturn, 1) := by decide +kernel
theorem dG_told_72 : decode mG_told.2.1 72 = .ok (.aload_n 0, 1) := by decide +kernel
theorem dG_told_73 : decode mG_told.2.1 73 = .ok (.getfield 12, 3) := by decide +kernel
theorem dG_told_76 : decode mG_told.2.1 76 = .ok (.getfield 127, 3) := by decide +kernel
theorem dG_told_79 : decode mG_told.2.1 79 = .ok (.ireturn, 1) := by decide +kernel
theorem dG_told_80 : decode mG_told.2.1 80 = .ok (.aload_n 0, 1) := by decide +kernel
theorem dG_told_81 : decode mG_told.2.1 81 = .ok (.getfield 24, 3) := by decide +kernel
theorem dG_told_84 : decode mG_told.2.1 84 = .ok (.aload_n 0, 1) := by decide +kernel
theorem dG_told_85 : decode mG_told.2.1 85 = .ok (.getfield 12, 3) := by decide +kernel
theorem dG_told_88 : decode mG_told.2.1 88 = .ok (.getfield 124, 3) := by decide +kernel
theorem dG_told_91 : decode mG_told.2.1 91 = .ok (.invokevirtual 130, 3) := by decide +kernel
theorem dG_told_94 : decode mG_told.2.1 94 = .ok (.ireturn, 1) := by decide +kernel
theorem dG_told_95 : decode mG_told.2.1 95 = .ok (.aload_n 0, 1) := by decide +kernel
theorem dG_told_96 : decode mG_told.2.1 96 = .ok (.getfield 12, 3) := by decide +kernel
theorem dG_told_99 : decode mG_told.2.1 99 = .ok (.aload_n 0, 1) := by decide +kernel
theorem dG_told_100 : decode mG_told.2.1 100 = .ok (.getfield 12, 3) := by decide +kernel
theorem dG_told_103 : decode mG_told.2.1 103 = .ok (.invokevirtual 133, 3) := by decide +kernel
theorem dG_told_106 : decode mG_told.2.1 106 = .ok (.invokevirtual 136, 3) := by decide +kernel
theorem dG_told_109 : decode mG_told.2.1 109 = .ok (.ireturn, 1) := by decide +kernel
theorem dG_told_110 : decode mG_told.2.1 110 = .ok (.iconst (-1), 1) := by decide +kernel
theorem dG_told_111 : decode mG_told.2.1 111 = .ok (.ireturn, 1) := by decide +kernel
theorem dG_pass_0 : decode mG_pass.2.1 0 = .ok (.iload_n 1, 1) := by decide +kernel
theorem dG_pass_1 : decode mG_pass.2.1 1 = .ok (.bipush 99, 2) := by decide +kernel
theorem dG_pass_3 : decode mG_pass.2.1 3 = .ok (.invokestatic 75, 3) := by decide +kernel
theorem dG_pass_6 : decode mG_pass.2.1 6 = .ok (.ifCond .ne 6, 3) := by decide +kernel
theorem dG_pass_9 : decode mG_pass.2.1 9 = .ok (.bipush (-2), 2) := by decide +kernel
theorem dG_pass_11 : decode mG_pass.2.1 11 = .ok (.ireturn, 1) := by decide +kernel
theorem dG_pass_12 : decode mG_pass.2.1 12 = .ok (.aload_n 0, 1) := by decide +kernel
theorem dG_pass_13 : decode mG_pass.2.1 13 = .ok (.getfield 12, 3) := by decide +kernel
theorem dG_pass_16 : decode mG_pass.2.1 16 = .ok (.getfield 108, 3) := by decide +kernel
theorem dG_pass_19 : decode mG_pass.2.1 19 = .ok (.iload_n 1, 1) := by decide +kernel
theorem dG_pass_20 : decode mG_pass.2.1 20 = .ok (.iadd, 1) := by decide +kernel
theorem dG_pass_21 : decode mG_pass.2.1 21 = .ok (.sipush 9999, 3) := by decide +kernel
theorem dG_pass_24 : decode mG_pass.2.1 24 = .ok (.if_icmp .le 6, 3) := by decide +kernel
theorem dG_pass_27 : decode mG_pass.2.1 27 = .ok (.bipush (-3), 2) := by decide +kernel
theorem dG_pass_29 : decode mG_pass.2.1 29 = .ok (.ireturn, 1) := by decide +kernel
theorem dG_pass_30 : decode mG_pass.2.1 30 = .ok (.aload_n 0, 1) := by decide +kernel
theorem dG_pass_31 : decode mG_pass.2.1 31 = .ok (.getfield 12, 3) := by decide +kernel
theorem dG_pass_34 : decode mG_pass.2.1 34 = .ok (.dup, 1) := by decide +kernel
theorem dG_pass_35 : decode mG_pass.2.1 35 = .ok (.getfield 108, 3) := by decide +kernel
theorem dG_pass_38 : decode mG_pass.2.1 38 = .ok (.iload_n 1, 1) := by decide +kernel
theorem dG_pass_39 : decode mG_pass.2.1 39 = .ok (.iadd, 1) := by decide +kernel
theorem dG_pass_40 : decode mG_pass.2.1 40 = .ok (.putfield 108, 3) := by decide +kernel
theorem dG_pass_43 : decode mG_pass.2.1 43 = .ok (.aload_n 0, 1) := by decide +kernel
theorem dG_pass_44 : decode mG_pass.2.1 44 = .ok (.getfield 12, 3) := by decide +kernel
theorem dG_pass_47 : decode mG_pass.2.1 47 = .ok (.getfield 108, 3) := by decide +kernel
theorem dG_pass_50 : decode mG_pass.2.1 50 = .ok (.ireturn, 1) := by decide +kernel
theorem dG_come_0 : decode mG_come.2.1 0 = .ok (.aload_n 0, 1) := by decide +kernel
theorem dG_come_1 : decode mG_come.2.1 1 = .ok (.getfield 12, 3) := by decide +kernel
theorem dG_come_4 : decode mG_come.2.1 4 = .ok (.iload_n 1, 1) := by decide +kernel
theorem dG_come_5 : decode mG_come.2.1 5 = .ok (.invokevirtual 68, 3) := by decide +kernel
theorem dG_come_8 : decode mG_come.2.1 8 = .ok (.ifCond .ne 5, 3) := by decide +kernel
theorem dG_come_11 : decode mG_come.2.1 11 = .ok (.iconst (-1), 1) := by decide +kernel
theorem dG_come_12 : decode mG_come.2.1 12 = .ok (.ireturn, 1) := by decide +kernel
theorem dG_come_13 : decode mG_come.2.1 13 = .ok (.aload_n 0, 1) := by decide +kernel
theorem dG_come_14 : decode mG_come.2.1 14 = .ok (.getfield 12, 3) := by decide +kernel
theorem dG_come_17 : decode mG_come.2.1 17 = .ok (.getfield 108, 3) := by decide +kernel
theorem dG_come_20 : decode mG_come.2.1 20 = .ok (.sipush 9999, 3) := by decide +kernel
theorem dG_come_23 : decode mG_come.2.1 23 = .ok (.if_icmp .lt 6, 3) := by decide +kernel
theorem dG_come_26 : decode mG_come.2.1 26 = .ok (.bipush (-3), 2) := by decide +kernel
theorem dG_come_28 : decode mG_come.2.1 28 = .ok (.ireturn, 1) := by decide +kernel
theorem dG_come_29 : decode mG_come.2.1 29 = .ok (.aload_n 0, 1) := by decide +kernel
theorem dG_come_30 : decode mG_come.2.1 30 = .ok (.getfield 33, 3) := by decide +kernel
theorem dG_come_33 : decode mG_come.2.1 33 = .ok (.iload_n 1, 1) := by decide +kernel
theorem dG_come_34 : decode mG_come.2.1 34 = .ok (.invokevirtual 139, 3) := by decide +kernel
theorem dG_come_37 : decode mG_come.2.1 37 = .ok (.istore_n 2, 1) := by decide +kernel
theorem dG_come_38 : decode mG_come.2.1 38 = .ok (.aload_n 0, 1) := by decide +kernel
theorem dG_come_39 : decode mG_come.2.1 39 = .ok (.getfield 12, 3) := by decide +kernel
theorem dG_come_42 : decode mG_come.2.1 42 = .ok (.ldc 142, 2) := by decide +kernel
theorem dG_come_44 : decode mG_come.2.1 44 = .ok (.aload_n 0, 1) := by decide +kernel
theorem dG_come_45 : decode mG_come.2.1 45 = .ok (.getfield 12, 3) := by decide +kernel
theorem dG_come_48 : decode mG_come.2.1 48 = .ok (.getfield 127, 3) := by decide +kernel
theorem dG_come_51 : decode mG_come.2.1 51 = .ok (.iload_n 2, 1) := by decide +kernel
theorem dG_come_52 : decode mG_come.2.1 52 = .ok (.iadd, 1) := by decide +kernel
theorem dG_come_53 : decode mG_come.2.1 53 = .ok (.invokestatic 143, 3) := by decide +kernel
theorem dG_come_56 : decode mG_come.2.1 56 = .ok (.putfield 127, 3) := by decide +kernel
theorem dG_come_59 : decode mG_come.2.1 59 = .ok (.aload_n 0, 1) := by decide +kernel
theorem dG_come_60 : decode mG_come.2.1 60 = .ok (.getfield 12, 3) := by decide +kernel
theorem dG_come_63 : decode mG_come.2.1 63 = .ok (.dup, 1) := by decide +kernel
theorem dG_come_64 : decode mG_come.2.1 64 = .ok (.getfield 108, 3) := by decide +kernel
theorem dG_come_67 : decode mG_come.2.1 67 = .ok (.iconst 1, 1) := by decide +kernel
theorem dG_come_68 : decode mG_come.2.1 68 = .ok (.iadd, 1) := by decide +kernel
theorem dG_come_69 : decode mG_come.2.1 69 = .ok (.putfield 108, 3) := by decide +kernel
theorem dG_come_72 : decode mG_come.2.1 72 = .ok (.iload_n 2, 1) := by decide +kernel
theorem dG_come_73 : decode mG_come.2.1 73 = .ok (.ireturn, 1) := by decide +kernel
theorem dG_pay_0 : decode mG_pay.2.1 0 = .ok (.aload_n 0, 1) := by decide +kernel
theorem dG_pay_1 : decode mG_pay.2.1 1 = .ok (.getfield 12, 3) := by decide +kernel
theorem dG_pay_4 : decode mG_pay.2.1 4 = .ok (.iload_n 1, 1) := by decide +kernel
theorem dG_pay_5 : decode mG_pay.2.1 5 = .ok (.invokevirtual 90, 3) := by decide +kernel
theorem dG_pay_8 : decode mG_pay.2.1 8 = .ok (.astore_n 3, 1) := by decide +kernel
theorem dG_pay_9 : decode mG_pay.2.1 9 = .ok (.aload_n 3, 1) := by decide +kernel
theorem dG_pay_10 : decode mG_pay.2.1 10 = .ok (.ifnull 14, 3) := by decide +kernel
theorem dG_pay_13 : decode mG_pay.2.1 13 = .ok (.aload_n 0, 1) := by decide +kernel
theorem dG_pay_14 : decode mG_pay.2.1 14 = .ok (.getfield 12, 3) := by decide +kernel
theorem dG_pay_17 : decode mG_pay.2.1 17 = .ok (.iload_n 2, 1) := by decide +kernel
theorem dG_pay_18 : decode mG_pay.2.1 18 = .ok (.invokevirtual 68, 3) := by decide +kernel
theorem dG_pay_21 : decode mG_pay.2.1 21 = .ok (.ifCond .ne 5, 3) := by decide +kernel
theorem dG_pay_24 : decode mG_pay.2.1 24 = .ok (.iconst (-1), 1) := by decide +kernel
theorem dG_pay_25 : decode mG_pay.2.1 25 = .ok (.ireturn, 1) := by decide +kernel
theorem dG_pay_26 : decode mG_pay.2.1 26 = .ok (.aload_n 0, 1) := by decide +kernel
theorem dG_pay_27 : decode mG_pay.2.1 27 = .ok (.getfield 33, 3) := by decide +kernel
theorem dG_pay_30 : decode mG_pay.2.1 30 = .ok (.aload_n 3, 1) := by decide +kernel
theorem dG_pay_31 : decode mG_pay.2.1 31 = .ok (.iload_n 2, 1) := by decide +kernel
theorem dG_pay_32 : decode mG_pay.2.1 32 = .ok (.invokevirtual 149, 3) := by decide +kernel
theorem dG_pay_35 : decode mG_pay.2.1 35 = .ok (.ireturn, 1) := by decide +kernel
theorem dG_mean_0 : decode mG_mean.2.1 0 = .ok (.aload_n 0, 1) := by decide +kernel
theorem dG_mean_1 : decode mG_mean.2.1 1 = .ok (.getfield 12, 3) := by decide +kernel
theorem dG_mean_4 : decode mG_mean.2.1 4 = .ok (.iload_n 1, 1) := by decide +kernel
theorem dG_mean_5 : decode mG_mean.2.1 5 = .ok (.invokevirtual 90, 3) := by decide +kernel
theorem dG_mean_8 : decode mG_mean.2.1 8 = .ok (.astore_n 3, 1) := by decide +kernel
theorem dG_mean_9 : decode mG_mean.2.1 9 = .ok (.aload_n 3, 1) := by decide +kernel
theorem dG_mean_10 : decode mG_mean.2.1 10 = .ok (.ifnonnull 7, 3) := by decide +kernel
theorem dG_mean_13 : decode mG_mean.2.1 13 = .ok (.ldc2_w 153, 3) := by decide +kernel
theorem dG_mean_16 : decode mG_mean.2.1 16 = .ok (.lreturn, 1) := by decide +kernel
theorem dG_mean_17 : decode mG_mean.2.1 17 = .ok (.aload_n 0, 1) := by decide +kernel
theorem dG_mean_18 : decode mG_mean.2.1 18 = .ok (.getfield 33, 3) := by decide +kernel
theorem dG_mean_21 : decode mG_mean.2.1 21 = .ok (.aload_n 3, 1) := by decide +kernel
theorem dG_mean_22 : decode mG_mean.2.1 22 = .ok (.invokevirtual 155, 3) := by decide +kernel
theorem dG_mean_25 : decode mG_mean.2.1 25 = .ok (.aload_n 0, 1) := by decide +kernel
theorem dG_mean_26 : decode mG_mean.2.1 26 = .ok (.getfield 12, 3) := by decide +kernel
theorem dG_mean_29 : decode mG_mean.2.1 29 = .ok (.aload_n 0, 1) := by decide +kernel
theorem dG_mean_30 : decode mG_mean.2.1 30 = .ok (.getfield 12, 3) := by decide +kernel
theorem dG_mean_33 : decode mG_mean.2.1 33 = .ok (.invokevirtual 133, 3) := by decide +kernel
theorem dG_mean_36 : decode mG_mean.2.1 36 = .ok (.invokevirtual 136, 3) := by decide +kernel
theorem dG_mean_39 : decode mG_mean.2.1 39 = .ok (.iload_n 2, 1) := by decide +kernel
theorem dG_mean_40 : decode mG_mean.2.1 40 = .ok (.invokestatic 159, 3) := by decide +kernel
theorem dG_mean_43 : decode mG_mean.2.1 43 = .ok (.lreturn, 1) := by decide +kernel
theorem dG_gain_0 : decode mG_gain.2.1 0 = .ok (.aload_n 0, 1) := by decide +kernel
theorem dG_gain_1 : decode mG_gain.2.1 1 = .ok (.getfield 12, 3) := by decide +kernel
theorem dG_gain_4 : decode mG_gain.2.1 4 = .ok (.iload_n 2, 1) := by decide +kernel
theorem dG_gain_5 : decode mG_gain.2.1 5 = .ok (.invokevirtual 68, 3) := by decide +kernel
theorem dG_gain_8 : decode mG_gain.2.1 8 = .ok (.ifCond .ne 6, 3) := by decide +kernel
theorem dG_gain_11 : decode mG_gain.2.1 11 = .ok (.ldc 163, 2) := by decide +kernel
theorem dG_gain_13 : decode mG_gain.2.1 13 = .ok (.ireturn, 1) := by decide +kernel
theorem dG_gain_14 : decode mG_gain.2.1 14 = .ok (.iload_n 1, 1) := by decide +kernel
theorem dG_gain_15 : decode mG_gain.2.1 15 = .ok (.aload_n 0, 1) := by decide +kernel
theorem dG_gain_16 : decode mG_gain.2.1 16 = .ok (.getfield 12, 3) := by decide +kernel
theorem dG_gain_19 : decode mG_gain.2.1 19 = .ok (.getfield 164, 3) := by decide +kernel
theorem dG_gain_22 : decode mG_gain.2.1 22 = .ok (.invokestatic 83, 3) := by decide +kernel
theorem dG_gain_25 : decode mG_gain.2.1 25 = .ok (.ifCond .ne 6, 3) := by decide +kernel
theorem dG_gain_28 : decode mG_gain.2.1 28 = .ok (.ldc 167, 2) := by decide +kernel
theorem dG_gain_30 : decode mG_gain.2.1 30 = .ok (.ireturn, 1) := by decide +kernel
theorem dG_gain_31 : decode mG_gain.2.1 31 = .ok (.aload_n 0, 1) := by decide +kernel
theorem dG_gain_32 : decode mG_gain.2.1 32 = .ok (.getfield 42, 3) := by decide +kernel
theorem dG_gain_35 : decode mG_gain.2.1 35 = .ok (.invokevirtual 168, 3) := by decide +kernel
theorem dG_gain_38 : decode mG_gain.2.1 38 = .ok (.aload_n 0, 1) := by decide +kernel
theorem dG_gain_39 : decode mG_gain.2.1 39 = .ok (.getfield 42, 3) := by decide +kernel
theorem dG_gain_42 : decode mG_gain.2.1 42 = .ok (.iload_n 1, 1) := by decide +kernel
theorem dG_gain_43 : decode mG_gain.2.1 43 = .ok (.iload_n 2, 1) := by decide +kernel
theorem dG_gain_44 : decode mG_gain.2.1 44 = .ok (.invokevirtual 171, 3) := by decide +kernel
theorem dG_gain_47 : decode mG_gain.2.1 47 = .ok (.ireturn, 1) := by decide +kernel
theorem dG_least_0 : decode mG_least.2.1 0 = .ok (.iload_n 1, 1) := by decide +kernel
theorem dG_least_1 : decode mG_least.2.1 1 = .ok (.aload_n 0, 1) := by decide +kernel
theorem dG_least_2 : decode mG_least.2.1 2 = .ok (.getfield 12, 3) := by decide +kernel
theorem dG_least_5 : decode mG_least.2.1 5 = .ok (.getfield 164, 3) := by decide +kernel
theorem dG_least_8 : decode mG_least.2.1 8 = .ok (.invokestatic 83, 3) := by decide +kernel
theorem dG_least_11 : decode mG_least.2.1 11 = .ok (.ifCond .ne 6, 3) := by decide +kernel
theorem dG_least_14 : decode mG_least.2.1 14 = .ok (.ldc 167, 2) := by decide +kernel
theorem dG_least_16 : decode mG_least.2.1 16 = .ok (.ireturn, 1) := by decide +kernel
theorem dG_least_17 : decode mG_least.2.1 17 = .ok (.aload_n 0, 1) := by decide +kernel
theorem dG_least_18 : decode mG_least.2.1 18 = .ok (.getfield 42, 3) := by decide +kernel
theorem dG_least_21 : decode mG_least.2.1 21 = .ok (.invokevirtual 168, 3) := by decide +kernel
theorem dG_least_24 : decode mG_least.2.1 24 = .ok (.aload_n 0, 1) := by decide +kernel
theorem dG_least_25 : decode mG_least.2.1 25 = .ok (.getfield 42, 3) := by decide +kernel
theorem dG_least_28 : decode mG_least.2.1 28 = .ok (.iload_n 1, 1) := by decide +kernel
theorem dG_least_29 : decode mG_least.2.1 29 = .ok (.invokevirtual 174, 3) := by decide +kernel
theorem dG_least_32 : decode mG_least.2.1 32 = .ok (.ireturn, 1) := by decide +kernel
theorem dG_open_0 : decode mG_open.2.1 0 = .ok (.iload_n 1, 1) := by decide +kernel
theorem dG_open_1 : decode mG_open.2.1 1 = .ok (.iconst (-1), 1) := by decide +kernel
theorem dG_open_2 : decode mG_open.2.1 2 = .ok (.if_icmp .ne 14, 3) := by decide +kernel
theorem dG_open_5 : decode mG_open.2.1 5 = .ok (.aload_n 0, 1) := by decide +kernel
theorem dG_open_6 : decode mG_open.2.1 6 = .ok (.getfield 12, 3) := by decide +kernel
theorem dG_open_9 : decode mG_open.2.1 9 = .ok (.getfield 177, 3) := by decide +kernel
theorem dG_open_12 : decode mG_open.2.1 12 = .ok (.invokevirtual 181, 3) := by decide +kernel
theorem dG_open_15 : decode mG_open.2.1 15 = .ok (.ireturn, 1) := by decide +kernel
theorem dG_open_16 : decode mG_open.2.1 16 = .ok (.aload_n 0, 1) := by decide +kernel
theorem dG_open_17 : decode mG_open.2.1 17 = .ok (.getfield 12, 3) := by decide +kernel
theorem dG_open_20 : decode mG_open.2.1 20 = .ok (.iload_n 1, 1) := by decide +kernel
theorem dG_open_21 : decode mG_open.2.1 21 = .ok (.invokevirtual 90, 3) := by decide +kernel
theorem dG_open_24 : decode mG_open.2.1 24 = .ok (.ifnonnull 5, 3) := by decide +kernel
theorem dG_open_27 : decode mG_open.2.1 27 = .ok (.iconst (-1), 1) := by decide +kernel
theorem dG_open_28 : decode mG_open.2.1 28 = .ok (.ireturn, 1) := by decide +kernel
theorem dG_open_29 : decode mG_open.2.1 29 = .ok (.aload_n 0, 1) := by decide +kernel
theorem dG_open_30 : decode mG_open.2.1 30 = .ok (.getfield 12, 3) := by decide +kernel
theorem dG_open_33 : decode mG_open.2.1 33 = .ok (.getfield 177, 3) := by decide +kernel
theorem dG_open_36 : decode mG_open.2.1 36 = .ok (.iload_n 1, 1) := by decide +kernel
theorem dG_open_37 : decode mG_open.2.1 37 = .ok (.iload_n 2, 1) := by decide +kernel
theorem dG_open_38 : decode mG_open.2.1 38 = .ok (.ifCond .eq 7, 3) := by decide +kernel
theorem dG_open_41 : decode mG_open.2.1 41 = .ok (.iconst 1, 1) := by decide +kernel
theorem dG_open_42 : decode mG_open.2.1 42 = .ok (.goto 4, 3) := by decide +kernel
theorem dG_open_45 : decode mG_open.2.1 45 = .ok (.iconst 0, 1) := by decide +kernel
theorem dG_open_46 : decode mG_open.2.1 46 = .ok (.iconst 0, 1) := by decide +kernel
theorem dG_open_47 : decode mG_open.2.1 47 = .ok (.invokevirtual 186, 3) := by decide +kernel
theorem dG_open_50 : decode mG_open.2.1 50 = .ok (.ireturn, 1) := by decide +kernel
theorem dG_left_0 : decode mG_left.2.1 0 = .ok (.aload_n 0, 1) := by decide +kernel
theorem dG_left_1 : decode mG_left.2.1 1 = .ok (.getfield 12, 3) := by decide +kernel
theorem dG_left_4 : decode mG_left.2.1 4 = .ok (.invokevirtual 190, 3) := by decide +kernel
theorem dG_left_7 : decode mG_left.2.1 7 = .ok (.ireturn, 1) := by decide +kernel
theorem dG_odds_0 : decode mG_odds.2.1 0 = .ok (.aload_n 0, 1) := by decide +kernel
theorem dG_odds_1 : decode mG_odds.2.1 1 = .ok (.getfield 12, 3) := by decide +kernel
theorem dG_odds_4 : decode mG_odds.2.1 4 = .ok (.iload_n 1, 1) := by decide +kernel
theorem dG_odds_5 : decode mG_odds.2.1 5 = .ok (.invokevirtual 90, 3) := by decide +kernel
theorem dG_odds_8 : decode mG_odds.2.1 8 = .ok (.astore_n 3, 1) := by decide +kernel
theorem dG_odds_9 : decode mG_odds.2.1 9 = .ok (.aload_n 3, 1) := by decide +kernel
theorem dG_odds_10 : decode mG_odds.2.1 10 = .ok (.ifnonnull 7, 3) := by decide +kernel
theorem dG_odds_13 : decode mG_odds.2.1 13 = .ok (.ldc2_w 153, 3) := by decide +kernel
theorem dG_odds_16 : decode mG_odds.2.1 16 = .ok (.lreturn, 1) := by decide +kernel
theorem dG_odds_17 : decode mG_odds.2.1 17 = .ok (.aload_n 0, 1) := by decide +kernel
theorem dG_odds_18 : decode mG_odds.2.1 18 = .ok (.getfield 12, 3) := by decide +kernel
theorem dG_odds_21 : decode mG_odds.2.1 21 = .ok (.invokevirtual 190, 3) := by decide +kernel
theorem dG_odds_24 : decode mG_odds.2.1 24 = .ok (.istore 4, 2) := by decide +kernel
theorem dG_odds_26 : decode mG_odds.2.1 26 = .ok (.aload_n 0, 1) := by decide +kernel
theorem dG_odds_27 : decode mG_odds.2.1 27 = .ok (.getfield 12, 3) := by decide +kernel
theorem dG_odds_30 : decode mG_odds.2.1 30 = .ok (.iload 4, 2) := by decide +kernel
theorem dG_odds_32 : decode mG_odds.2.1 32 = .ok (.aload_n 3, 1) := by decide +kernel
theorem dG_odds_33 : decode mG_odds.2.1 33 = .ok (.getfield 102, 3) := by decide +kernel
theorem dG_odds_36 : decode mG_odds.2.1 36 = .ok (.iand, 1) := by decide +kernel
theorem dG_odds_37 : decode mG_odds.2.1 37 = .ok (.invokevirtual 136, 3) := by decide +kernel
theorem dG_odds_40 : decode mG_odds.2.1 40 = .ok (.aload_n 0, 1) := by decide +kernel
theorem dG_odds_41 : decode mG_odds.2.1 41 = .ok (.getfield 12, 3) := by decide +kernel
theorem dG_odds_44 : decode mG_odds.2.1 44 = .ok (.iload 4, 2) := by decide +kernel
theorem dG_odds_46 : decode mG_odds.2.1 46 = .ok (.invokevirtual 136, 3) := by decide +kernel
theorem dG_odds_49 : decode mG_odds.2.1 49 = .ok (.iload_n 2, 1) := by decide +kernel
theorem dG_odds_50 : decode mG_odds.2.1 50 = .ok (.invokestatic 159, 3) := by decide +kernel
theorem dG_odds_53 : decode mG_odds.2.1 53 = .ok (.lreturn, 1) := by decide +kernel
theorem dG_knew_0 : decode mG_knew.2.1 0 = .ok (.aload_n 0, 1) := by decide +kernel
theorem dG_knew_1 : decode mG_knew.2.1 1 = .ok (.getfield 12, 3) := by decide +kernel
theorem dG_knew_4 : decode mG_knew.2.1 4 = .ok (.aload_n 0, 1) := by decide +kernel
theorem dG_knew_5 : decode mG_knew.2.1 5 = .ok (.getfield 12, 3) := by decide +kernel
theorem dG_knew_8 : decode mG_knew.2.1 8 = .ok (.invokevirtual 190, 3) := by decide +kernel
theorem dG_knew_11 : decode mG_knew.2.1 11 = .ok (.invokevirtual 193, 3) := by decide +kernel
theorem dG_knew_14 : decode mG_knew.2.1 14 = .ok (.ireturn, 1) := by decide +kernel
theorem dG_best_0 : decode mG_best.2.1 0 = .ok (.aload_n 0, 1) := by decide +kernel
theorem dG_best_1 : decode mG_best.2.1 1 = .ok (.getfield 12, 3) := by decide +kernel
theorem dG_best_4 : decode mG_best.2.1 4 = .ok (.iload_n 1, 1) := by decide +kernel
theorem dG_best_5 : decode mG_best.2.1 5 = .ok (.invokevirtual 90, 3) := by decide +kernel
theorem dG_best_8 : decode mG_best.2.1 8 = .ok (.astore_n 3, 1) := by decide +kernel
theorem dG_best_9 : decode mG_best.2.1 9 = .ok (.aload_n 3, 1) := by decide +kernel
theorem dG_best_10 : decode mG_best.2.1 10 = .ok (.ifnull 11, 3) := by decide +kernel
theorem dG_best_13 : decode mG_best.2.1 13 = .ok (.iload_n 2, 1) := by decide +kernel
theorem dG_best_14 : decode mG_best.2.1 14 = .ok (.iconst 1, 1) := by decide +kernel
theorem dG_best_15 : decode mG_best.2.1 15 = .ok (.invokestatic 75, 3) := by decide +kernel
theorem dG_best_18 : decode mG_best.2.1 18 = .ok (.ifCond .ne 5, 3) := by decide +kernel
theorem dG_best_21 : decode mG_best.2.1 21 = .ok (.iconst (-1), 1) := by decide +kernel
theorem dG_best_22 : decode mG_best.2.1 22 = .ok (.ireturn, 1) := by decide +kernel
theorem dG_best_23 : decode mG_best.2.1 23 = .ok (.aload_n 0, 1) := by decide +kernel
theorem dG_best_24 : decode mG_best.2.1 24 = .ok (.getfield 33, 3) := by decide +kernel
theorem dG_best_27 : decode mG_best.2.1 27 = .ok (.aload_n 3, 1) := by decide +kernel
theorem dG_best_28 : decode mG_best.2.1 28 = .ok (.invokevirtual 196, 3) := by decide +kernel
theorem dG_best_31 : decode mG_best.2.1 31 = .ok (.istore 4, 2) := by decide +kernel
theorem dG_best_33 : decode mG_best.2.1 33 = .ok (.iload_n 2, 1) := by decide +kernel
theorem dG_best_34 : decode mG_best.2.1 34 = .ok (.ifCond .ne 8, 3) := by decide +kernel
theorem dG_best_37 : decode mG_best.2.1 37 = .ok (.iload 4, 2) := by decide +kernel
theorem dG_best_39 : decode mG_best.2.1 39 = .ok (.goto 20, 3) := by decide +kernel
theorem dG_best_42 : decode mG_best.2.1 42 = .ok (.aload_n 0, 1) := by decide +kernel
theorem dG_best_43 : decode mG_best.2.1 43 = .ok (.getfield 33, 3) := by decide +kernel
theorem dG_best_46 : decode mG_best.2.1 46 = .ok (.aload_n 3, 1) := by decide +kernel
theorem dG_best_47 : decode mG_best.2.1 47 = .ok (.iload 4, 2) := by decide +kernel
theorem dG_best_49 : decode mG_best.2.1 49 = .ok (.aload_n 0, 1) := by decide +kernel
theorem dG_best_50 : decode mG_best.2.1 50 = .ok (.getfield 12, 3) := by decide +kernel
theorem dG_best_53 : decode mG_best.2.1 53 = .ok (.getfield 108, 3) := by decide +kernel
theorem dG_best_56 : decode mG_best.2.1 56 = .ok (.invokevirtual 199, 3) := by decide +kernel
theorem dG_best_59 : decode mG_best.2.1 59 = .ok (.ireturn, 1) := by decide +kernel
theorem dG_safest_0 : decode mG_safest.2.1 0 = .ok (.iload_n 1, 1) := by decide +kernel
theorem dG_safest_1 : decode mG_safest.2.1 1 = .ok (.iconst 1, 1) := by decide +kernel
theorem dG_safest_2 : decode mG_safest.2.1 2 = .ok (.invokestatic 75, 3) := by decide +kernel
theorem dG_safest_5 : decode mG_safest.2.1 5 = .ok (.ifCond .ne 6, 3) := by decide +kernel
theorem dG_safest_8 : decode mG_safest.2.1 8 = .ok (.ldc 163, 2) := by decide +kernel
theorem dG_safest_10 : decode mG_safest.2.1 10 = .ok (.ireturn, 1) := by decide +kernel
theorem dG_safest_11 : decode mG_safest.2.1 11 = .ok (.aload_n 0, 1) := by decide +kernel
theorem dG_safest_12 : decode mG_safest.2.1 12 = .ok (.getfield 42, 3) := by decide +kernel
theorem dG_safest_15 : decode mG_safest.2.1 15 = .ok (.invokevirtual 168, 3) := by decide +kernel
theorem dG_safest_18 : decode mG_safest.2.1 18 = .ok (.aload_n 0, 1) := by decide +kernel
theorem dG_safest_19 : decode mG_safest.2.1 19 = .ok (.getfield 42, 3) := by decide +kernel
theorem dG_safest_22 : decode mG_safest.2.1 22 = .ok (.invokevirtual 203, 3) := by decide +kernel
theorem dG_safest_25 : decode mG_safest.2.1 25 = .ok (.istore_n 2, 1) := by decide +kernel
theorem dG_safest_26 : decode mG_safest.2.1 26 = .ok (.iload_n 1, 1) := by decide +kernel
theorem dG_safest_27 : decode mG_safest.2.1 27 = .ok (.ifCond .ne 7, 3) := by decide +kernel
theorem dG_safest_30 : decode mG_safest.2.1 30 = .ok (.iload_n 2, 1) := by decide +kernel
theorem dG_safest_31 : decode mG_safest.2.1 31 = .ok (.goto 11, 3) := by decide +kernel
theorem dG_safest_34 : decode mG_safest.2.1 34 = .ok (.aload_n 0, 1) := by decide +kernel
theorem dG_safest_35 : decode mG_safest.2.1 35 = .ok (.getfield 42, 3) := by decide +kernel
theorem dG_safest_38 : decode mG_safest.2.1 38 = .ok (.iload_n 2, 1) := by decide +kernel
theorem dG_safest_39 : decode mG_safest.2.1 39 = .ok (.invokevirtual 174, 3) := by decide +kernel
theorem dG_safest_42 : decode mG_safest.2.1 42 = .ok (.ireturn, 1) := by decide +kernel
theorem dG_sure_0 : decode mG_sure.2.1 0 = .ok (.aload_n 0, 1) := by decide +kernel
theorem dG_sure_1 : decode mG_sure.2.1 1 = .ok (.getfield 42, 3) := by decide +kernel
theorem dG_sure_4 : decode mG_sure.2.1 4 = .ok (.invokevirtual 168, 3) := by decide +kernel
theorem dG_sure_7 : decode mG_sure.2.1 7 = .ok (.aload_n 0, 1) := by decide +kernel
theorem dG_sure_8 : decode mG_sure.2.1 8 = .ok (.getfield 42, 3) := by decide +kernel
theorem dG_sure_11 : decode mG_sure.2.1 11 = .ok (.invokevirtual 206, 3) := by decide +kernel
theorem dG_sure_14 : decode mG_sure.2.1 14 = .ok (.ireturn, 1) := by decide +kernel
theorem dG_hedge_0 : decode mG_hedge.2.1 0 = .ok (.aload_n 0, 1) := by decide +kernel
theorem dG_hedge_1 : decode mG_hedge.2.1 1 = .ok (.getfield 12, 3) := by decide +kernel
theorem dG_hedge_4 : decode mG_hedge.2.1 4 = .ok (.getfield 164, 3) := by decide +kernel
theorem dG_hedge_7 : decode mG_hedge.2.1 7 = .ok (.iconst 2, 1) := by decide +kernel
theorem dG_hedge_8 : decode mG_hedge.2.1 8 = .ok (.if_icmp .lt 13, 3) := by decide +kernel
theorem dG_hedge_11 : decode mG_hedge.2.1 11 = .ok (.aload_n 0, 1) := by decide +kernel
theorem dG_hedge_12 : decode mG_hedge.2.1 12 = .ok (.getfield 12, 3) := by decide +kernel
theorem dG_hedge_15 : decode mG_hedge.2.1 15 = .ok (.getfield 79, 3) := by decide +kernel
theorem dG_hedge_18 : decode mG_hedge.2.1 18 = .ok (.ifCond .ne 6, 3) := by decide +kernel
theorem dG_hedge_21 : decode mG_hedge.2.1 21 = .ok (.bipush (-5), 2) := by decide +kernel
theorem dG_hedge_23 : decode mG_hedge.2.1 23 = .ok (.ireturn, 1) := by decide +kernel
theorem dG_hedge_24 : decode mG_hedge.2.1 24 = .ok (.aload_n 0, 1) := by decide +kernel
theorem dG_hedge_25 : decode mG_hedge.2.1 25 = .ok (.getfield 42, 3) := by decide +kernel
theorem dG_hedge_28 : decode mG_hedge.2.1 28 = .ok (.invokevirtual 168, 3) := by decide +kernel
theorem dG_hedge_31 : decode mG_hedge.2.1 31 = .ok (.aload_n 0, 1) := by decide +kernel
theorem dG_hedge_32 : decode mG_hedge.2.1 32 = .ok (.getfield 42, 3) := by decide +kernel
theorem dG_hedge_35 : decode mG_hedge.2.1 35 = .ok (.invokevirtual 209, 3) := by decide +kernel
theorem dG_hedge_38 : decode mG_hedge.2.1 38 = .ok (.ireturn, 1) := by decide +kernel
theorem dG_against_0 : decode mG_against.2.1 0 = .ok (.aload_n 0, 1) := by decide +kernel
theorem dG_against_1 : decode mG_against.2.1 1 = .ok (.getfield 12, 3) := by decide +kernel
theorem dG_against_4 : decode mG_against.2.1 4 = .ok (.iload_n 1, 1) := by decide +kernel
theorem dG_against_5 : decode mG_against.2.1 5 = .ok (.invokevirtual 90, 3) := by decide +kernel
theorem dG_against_8 : decode mG_against.2.1 8 = .ok (.astore_n 2, 1) := by decide +kernel
theorem dG_against_9 : decode mG_against.2.1 9 = .ok (.aload_n 2, 1) := by decide +kernel
theorem dG_against_10 : decode mG_against.2.1 10 = .ok (.ifnonnull 5, 3) := by decide +kernel
theorem dG_against_13 : decode mG_against.2.1 13 = .ok (.iconst (-1), 1) := by decide +kernel
theorem dG_against_14 : decode mG_against.2.1 14 = .ok (.ireturn, 1) := by decide +kernel
theorem dG_against_15 : decode mG_against.2.1 15 = .ok (.aload_n 0, 1) := by decide +kernel
theorem dG_against_16 : decode mG_against.2.1 16 = .ok (.getfield 12, 3) := by decide +kernel
theorem dG_against_19 : decode mG_against.2.1 19 = .ok (.aload_n 2, 1) := by decide +kernel
theorem dG_against_20 : decode mG_against.2.1 20 = .ok (.invokevirtual 212, 3) := by decide +kernel
theorem dG_against_23 : decode mG_against.2.1 23 = .ok (.ireturn, 1) := by decide +kernel
theorem dG_when_0 : decode mG_when.2.1 0 = .ok (.aload_n 0, 1) := by decide +kernel
theorem dG_when_1 : decode mG_when.2.1 1 = .ok (.getfield 12, 3) := by decide +kernel
theorem dG_when_4 : decode mG_when.2.1 4 = .ok (.iload_n 1, 1) := by decide +kernel
theorem dG_when_5 : decode mG_when.2.1 5 = .ok (.invokevirtual 90, 3) := by decide +kernel
theorem dG_when_8 : decode mG_when.2.1 8 = .ok (.astore 4, 2) := by decide +kernel
theorem dG_when_10 : decode mG_when.2.1 10 = .ok (.aload 4, 2) := by decide +kernel
theorem dG_when_12 : decode mG_when.2.1 12 = .ok (.ifnull 11, 3) := by decide +kernel
theorem dG_when_15 : decode mG_when.2.1 15 = .ok (.iload_n 3, 1) := by decide +kernel
theorem dG_when_16 : decode mG_when.2.1 16 = .ok (.iconst 1, 1) := by decide +kernel
theorem dG_when_17 : decode mG_when.2.1 17 = .ok (.invokestatic 75, 3) := by decide +kernel
theorem dG_when_20 : decode mG_when.2.1 20 = .ok (.ifCond .ne 5, 3) := by decide +kernel
theorem dG_when_23 : decode mG_when.2.1 23 = .ok (.iconst (-1), 1) := by decide +kernel
theorem dG_when_24 : decode mG_when.2.1 24 = .ok (.ireturn, 1) := by decide +kernel
theorem dG_when_25 : decode mG_when.2.1 25 = .ok (.iload_n 2, 1) := by decide +kernel
theorem dG_when_26 : decode mG_when.2.1 26 = .ok (.bipush 60, 2) := by decide +kernel
theorem dG_when_28 : decode mG_when.2.1 28 = .ok (.invokestatic 75, 3) := by decide +kernel
theorem dG_when_31 : decode mG_when.2.1 31 = .ok (.ifCond .ne 6, 3) := by decide +kernel
theorem dG_when_34 : decode mG_when.2.1 34 = .ok (.bipush (-2), 2) := by decide +kernel
theorem dG_when_36 : decode mG_when.2.1 36 = .ok (.ireturn, 1) := by decide +kernel
theorem dG_when_37 : decode mG_when.2.1 37 = .ok (.aload_n 0, 1) := by decide +kernel
theorem dG_when_38 : decode mG_when.2.1 38 = .ok (.getfield 33, 3) := by decide +kernel
theorem dG_when_41 : decode mG_when.2.1 41 = .ok (.aload 4, 2) := by decide +kernel
theorem dG_when_43 : decode mG_when.2.1 43 = .ok (.iload_n 2, 1) := by decide +kernel
theorem dG_when_44 : decode mG_when.2.1 44 = .ok (.invokevirtual 215, 3) := by decide +kernel
theorem dG_when_47 : decode mG_when.2.1 47 = .ok (.istore 5, 2) := by decide +kernel
theorem dG_when_49 : decode mG_when.2.1 49 = .ok (.iload_n 3, 1) := by decide +kernel
theorem dG_when_50 : decode mG_when.2.1 50 = .ok (.ifCond .ne 8, 3) := by decide +kernel
theorem dG_when_53 : decode mG_when.2.1 53 = .ok (.iload 5, 2) := by decide +kernel
theorem dG_when_55 : decode mG_when.2.1 55 = .ok (.goto 27, 3) := by decide +kernel
theorem dG_when_58 : decode mG_when.2.1 58 = .ok (.aload_n 0, 1) := by decide +kernel
theorem dG_when_59 : decode mG_when.2.1 59 = .ok (.getfield 33, 3) := by decide +kernel
theorem dG_when_62 : decode mG_when.2.1 62 = .ok (.aload 4, 2) := by decide +kernel
theorem dG_when_64 : decode mG_when.2.1 64 = .ok (.aload 4, 2) := by decide +kernel
theorem dG_when_66 : decode mG_when.2.1 66 = .ok (.getfield 102, 3) := by decide +kernel
theorem dG_when_69 : decode mG_when.2.1 69 = .ok (.aload_n 0, 1) := by decide +kernel
theorem dG_when_70 : decode mG_when.2.1 70 = .ok (.getfield 12, 3) := by decide +kernel
theorem dG_when_73 : decode mG_when.2.1 73 = .ok (.getfield 108, 3) := by decide +kernel
theorem dG_when_76 : decode mG_when.2.1 76 = .ok (.iload 5, 2) := by decide +kernel
theorem dG_when_78 : decode mG_when.2.1 78 = .ok (.iadd, 1) := by decide +kernel
theorem dG_when_79 : decode mG_when.2.1 79 = .ok (.invokevirtual 199, 3) := by decide +kernel
theorem dG_when_82 : decode mG_when.2.1 82 = .ok (.ireturn, 1) := by decide +kernel
theorem dG_crowd_0 : decode mG_crowd.2.1 0 = .ok (.iload_n 1, 1) := by decide +kernel
theorem dG_crowd_1 : decode mG_crowd.2.1 1 = .ok (.iconst 1, 1) := by decide +kernel
theorem dG_crowd_2 : decode mG_crowd.2.1 2 = .ok (.invokestatic 75, 3) := by decide +kernel
theorem dG_crowd_5 : decode mG_crowd.2.1 5 = .ok (.ifCond .ne 5, 3) := by decide +kernel
theorem dG_crowd_8 : decode mG_crowd.2.1 8 = .ok (.iconst (-1), 1) := by decide +kernel
theorem dG_crowd_9 : decode mG_crowd.2.1 9 = .ok (.ireturn, 1) := by decide +kernel
theorem dG_crowd_10 : decode mG_crowd.2.1 10 = .ok (.aload_n 0, 1) := by decide +kernel
theorem dG_crowd_11 : decode mG_crowd.2.1 11 = .ok (.getfield 12, 3) := by decide +kernel
theorem dG_crowd_14 : decode mG_crowd.2.1 14 = .ok (.getfield 79, 3) := by decide +kernel
theorem dG_crowd_17 : decode mG_crowd.2.1 17 = .ok (.ifCond .ne 6, 3) := by decide +kernel
theorem dG_crowd_20 : decode mG_crowd.2.1 20 = .ok (.bipush (-5), 2) := by decide +kernel
theorem dG_crowd_22 : decode mG_crowd.2.1 22 = .ok (.ireturn, 1) := by decide +kernel
theorem dG_crowd_23 : decode mG_crowd.2.1 23 = .ok (.aload_n 0, 1) := by decide +kernel
theorem dG_crowd_24 : decode mG_crowd.2.1 24 = .ok (.getfield 12, 3) := by decide +kernel
theorem dG_crowd_27 : decode mG_crowd.2.1 27 = .ok (.invokevirtual 218, 3) := by decide +kernel
theorem dG_crowd_30 : decode mG_crowd.2.1 30 = .ok (.istore_n 2, 1) := by decide +kernel
theorem dG_crowd_31 : decode mG_crowd.2.1 31 = .ok (.iload_n 1, 1) := by decide +kernel
theorem dG_crowd_32 : decode mG_crowd.2.1 32 = .ok (.ifCond .ne 7, 3) := by decide +kernel
theorem dG_crowd_35 : decode mG_crowd.2.1 35 = .ok (.iload_n 2, 1) := by decide +kernel
theorem dG_crowd_36 : decode mG_crowd.2.1 36 = .ok (.goto 11, 3) := by decide +kernel
theorem dG_crowd_39 : decode mG_crowd.2.1 39 = .ok (.aload_n 0, 1) := by decide +kernel
theorem dG_crowd_40 : decode mG_crowd.2.1 40 = .ok (.getfield 12, 3) := by decide +kernel
theorem dG_crowd_43 : decode mG_crowd.2.1 43 = .ok (.iload_n 2, 1) := by decide +kernel
theorem dG_crowd_44 : decode mG_crowd.2.1 44 = .ok (.invokevirtual 221, 3) := by decide +kernel
theorem dG_crowd_47 : decode mG_crowd.2.1 47 = .ok (.ireturn, 1) := by decide +kernel
theorem dG_cheap_0 : decode mG_cheap.2.1 0 = .ok (.aload_n 0, 1) := by decide +kernel
theorem dG_cheap_1 : decode mG_cheap.2.1 1 = .ok (.getfield 33, 3) := by decide +kernel
theorem dG_cheap_4 : decode mG_cheap.2.1 4 = .ok (.invokevirtual 224, 3) := by decide +kernel
theorem dG_cheap_7 : decode mG_cheap.2.1 7 = .ok (.ireturn, 1) := by decide +kernel
theorem dG_burnt_0 : decode mG_burnt.2.1 0 = .ok (.aload_n 0, 1) := by decide +kernel
theorem dG_burnt_1 : decode mG_burnt.2.1 1 = .ok (.getfield 12, 3) := by decide +kernel
theorem dG_burnt_4 : decode mG_burnt.2.1 4 = .ok (.iload_n 1, 1) := by decide +kernel
theorem dG_burnt_5 : decode mG_burnt.2.1 5 = .ok (.invokevirtual 90, 3) := by decide +kernel
theorem dG_burnt_8 : decode mG_burnt.2.1 8 = .ok (.ifnonnull 6, 3) := by decide +kernel
theorem dG_burnt_11 : decode mG_burnt.2.1 11 = .ok (.ldc 163, 2) := by decide +kernel
theorem dG_burnt_13 : decode mG_burnt.2.1 13 = .ok (.ireturn, 1) := by decide +kernel
theorem dG_burnt_14 : decode mG_burnt.2.1 14 = .ok (.aload_n 0, 1) := by decide +kernel
theorem dG_burnt_15 : decode mG_burnt.2.1 15 = .ok (.getfield 42, 3) := by decide +kernel
theorem dG_burnt_18 : decode mG_burnt.2.1 18 = .ok (.invokevirtual 168, 3) := by decide +kernel
theorem dG_burnt_21 : decode mG_burnt.2.1 21 = .ok (.aload_n 0, 1) := by decide +kernel
theorem dG_burnt_22 : decode mG_burnt.2.1 22 = .ok (.getfield 12, 3) := by decide +kernel
theorem dG_burnt_25 : decode mG_burnt.2.1 25 = .ok (.invokevirtual 227, 3) := by decide +kernel
theorem dG_burnt_28 : decode mG_burnt.2.1 28 = .ok (.istore_n 2, 1) := by decide +kernel
theorem dG_burnt_29 : decode mG_burnt.2.1 29 = .ok (.aload_n 0, 1) := by decide +kernel
theorem dG_burnt_30 : decode mG_burnt.2.1 30 = .ok (.getfield 42, 3) := by decide +kernel
theorem dG_burnt_33 : decode mG_burnt.2.1 33 = .ok (.iload_n 2, 1) := by decide +kernel
theorem dG_burnt_34 : decode mG_burnt.2.1 34 = .ok (.iconst 1, 1) := by decide +kernel
theorem dG_burnt_35 : decode mG_burnt.2.1 35 = .ok (.iload_n 1, 1) := by decide +kernel
theorem dG_burnt_36 : decode mG_burnt.2.1 36 = .ok (.ishl, 1) := by decide +kernel
theorem dG_burnt_37 : decode mG_burnt.2.1 37 = .ok (.iconst (-1), 1) := by decide +kernel
theorem dG_burnt_38 : decode mG_burnt.2.1 38 = .ok (.ixor, 1) := by decide +kernel
theorem dG_burnt_39 : decode mG_burnt.2.1 39 = .ok (.iand, 1) := by decide +kernel
theorem dG_burnt_40 : decode mG_burnt.2.1 40 = .ok (.invokevirtual 174, 3) := by decide +kernel
theorem dG_burnt_43 : decode mG_burnt.2.1 43 = .ok (.aload_n 0, 1) := by decide +kernel
theorem dG_burnt_44 : decode mG_burnt.2.1 44 = .ok (.getfield 42, 3) := by decide +kernel
theorem dG_burnt_47 : decode mG_burnt.2.1 47 = .ok (.iload_n 2, 1) := by decide +kernel
theorem dG_burnt_48 : decode mG_burnt.2.1 48 = .ok (.invokevirtual 174, 3) := by decide +kernel
theorem dG_burnt_51 : decode mG_burnt.2.1 51 = .ok (.isub, 1) := by decide +kernel
theorem dG_burnt_52 : decode mG_burnt.2.1 52 = .ok (.ireturn, 1) := by decide +kernel
theorem dG_worth_0 : decode mG_worth.2.1 0 = .ok (.iload_n 1, 1) := by decide +kernel
theorem dG_worth_1 : decode mG_worth.2.1 1 = .ok (.bipush 99, 2) := by decide +kernel
theorem dG_worth_3 : decode mG_worth.2.1 3 = .ok (.invokestatic 75, 3) := by decide +kernel
theorem dG_worth_6 : decode mG_worth.2.1 6 = .ok (.ifCond .ne 6, 3) := by decide +kernel
theorem dG_worth_9 : decode mG_worth.2.1 9 = .ok (.bipush (-2), 2) := by decide +kernel
theorem dG_worth_11 : decode mG_worth.2.1 11 = .ok (.ireturn, 1) := by decide +kernel
theorem dG_worth_12 : decode mG_worth.2.1 12 = .ok (.aload_n 0, 1) := by decide +kernel
theorem dG_worth_13 : decode mG_worth.2.1 13 = .ok (.getfield 33, 3) := by decide +kernel
theorem dG_worth_16 : decode mG_worth.2.1 16 = .ok (.iload_n 1, 1) := by decide +kernel
theorem dG_worth_17 : decode mG_worth.2.1 17 = .ok (.invokevirtual 230, 3) := by decide +kernel
theorem dG_worth_20 : decode mG_worth.2.1 20 = .ok (.ireturn, 1) := by decide +kernel
theorem dG_book_0 : decode mG_book.2.1 0 = .ok (.iload_n 1, 1) := by decide +kernel
theorem dG_book_1 : decode mG_book.2.1 1 = .ok (.iconst (-1), 1) := by decide +kernel
theorem dG_book_2 : decode mG_book.2.1 2 = .ok (.if_icmp .ne 14, 3) := by decide +kernel
theorem dG_book_5 : decode mG_book.2.1 5 = .ok (.aload_n 0, 1) := by decide +kernel
theorem dG_book_6 : decode mG_book.2.1 6 = .ok (.getfield 12, 3) := by decide +kernel
theorem dG_book_9 : decode mG_book.2.1 9 = .ok (.getfield 233, 3) := by decide +kernel
theorem dG_book_12 : decode mG_book.2.1 12 = .ok (.invokevirtual 181, 3) := by decide +kernel
theorem dG_book_15 : decode mG_book.2.1 15 = .ok (.ireturn, 1) := by decide +kernel
theorem dG_book_16 : decode mG_book.2.1 16 = .ok (.aload_n 0, 1) := by decide +kernel
theorem dG_book_17 : decode mG_book.2.1 17 = .ok (.getfield 12, 3) := by decide +kernel
theorem dG_book_20 : decode mG_book.2.1 20 = .ok (.iload_n 1, 1) := by decide +kernel
theorem dG_book_21 : decode mG_book.2.1 21 = .ok (.invokevirtual 90, 3) := by decide +kernel
theorem dG_book_24 : decode mG_book.2.1 24 = .ok (.ifnull 14, 3) := by decide +kernel
theorem dG_book_27 : decode mG_book.2.1 27 = .ok (.aload_n 0, 1) := by decide +kernel
theorem dG_book_28 : decode mG_book.2.1 28 = .ok (.getfield 12, 3) := by decide +kernel
theorem dG_book_31 : decode mG_book.2.1 31 = .ok (.iload_n 2, 1) := by decide +kernel
theorem dG_book_32 : decode mG_book.2.1 32 = .ok (.invokevirtual 68, 3) := by decide +kernel
theorem dG_book_35 : decode mG_book.2.1 35 = .ok (.ifCond .ne 5, 3) := by decide +kernel
theorem dG_book_38 : decode mG_book.2.1 38 = .ok (.iconst (-1), 1) := by decide +kernel
theorem dG_book_39 : decode mG_book.2.1 39 = .ok (.ireturn, 1) := by decide +kernel
theorem dG_book_40 : decode mG_book.2.1 40 = .ok (.iload_n 3, 1) := by decide +kernel
theorem dG_book_41 : decode mG_book.2.1 41 = .ok (.sipush 9999, 3) := by decide +kernel
theorem dG_book_44 : decode mG_book.2.1 44 = .ok (.invokestatic 75, 3) := by decide +kernel
theorem dG_book_47 : decode mG_book.2.1 47 = .ok (.ifCond .ne 6, 3) := by decide +kernel
theorem dG_book_50 : decode mG_book.2.1 50 = .ok (.bipush (-2), 2) := by decide +kernel
theorem dG_book_52 : decode mG_book.2.1 52 = .ok (.ireturn, 1) := by decide +kernel
theorem dG_book_53 : decode mG_book.2.1 53 = .ok (.aload_n 0, 1) := by decide +kernel
theorem dG_book_54 : decode mG_book.2.1 54 = .ok (.getfield 12, 3) := by decide +kernel
theorem dG_book_57 : decode mG_book.2.1 57 = .ok (.getfield 233, 3) := by decide +kernel
theorem dG_book_60 : decode mG_book.2.1 60 = .ok (.iload_n 1, 1) := by decide +kernel
theorem dG_book_61 : decode mG_book.2.1 61 = .ok (.iload_n 2, 1) := by decide +kernel
theorem dG_book_62 : decode mG_book.2.1 62 = .ok (.iload_n 3, 1) := by decide +kernel
theorem dG_book_63 : decode mG_book.2.1 63 = .ok (.invokevirtual 186, 3) := by decide +kernel
theorem dG_book_66 : decode mG_book.2.1 66 = .ok (.ireturn, 1) := by decide +kernel
theorem dG_looked_0 : decode mG_looked.2.1 0 = .ok (.aload_n 0, 1) := by decide +kernel
theorem dG_looked_1 : decode mG_looked.2.1 1 = .ok (.getfield 33, 3) := by decide +kernel
theorem dG_looked_4 : decode mG_looked.2.1 4 = .ok (.invokevirtual 236, 3) := by decide +kernel
theorem dG_looked_7 : decode mG_looked.2.1 7 = .ok (.ireturn, 1) := by decide +kernel
theorem dG_judge_0 : decode mG_judge.2.1 0 = .ok (.aload_n 0, 1) := by decide +kernel
theorem dG_judge_1 : decode mG_judge.2.1 1 = .ok (.getfield 56, 3) := by decide +kernel
theorem dG_judge_4 : decode mG_judge.2.1 4 = .ok (.iload_n 1, 1) := by decide +kernel
theorem dG_judge_5 : decode mG_judge.2.1 5 = .ok (.invokevirtual 239, 3) := by decide +kernel
theorem dG_judge_8 : decode mG_judge.2.1 8 = .ok (.ifCond .ne 5, 3) := by decide +kernel
theorem dG_judge_11 : decode mG_judge.2.1 11 = .ok (.iconst (-1), 1) := by decide +kernel
theorem dG_judge_12 : decode mG_judge.2.1 12 = .ok (.ireturn, 1) := by decide +kernel
theorem dG_judge_13 : decode mG_judge.2.1 13 = .ok (.aload_n 0, 1) := by decide +kernel
theorem dG_judge_14 : decode mG_judge.2.1 14 = .ok (.getfield 56, 3) := by decide +kernel
theorem dG_judge_17 : decode mG_judge.2.1 17 = .ok (.iload_n 1, 1) := by decide +kernel
theorem dG_judge_18 : decode mG_judge.2.1 18 = .ok (.invokevirtual 242, 3) := by decide +kernel
theorem dG_judge_21 : decode mG_judge.2.1 21 = .ok (.ifCond .eq 17, 3) := by decide +kernel
theorem dG_judge_24 : decode mG_judge.2.1 24 = .ok (.aload_n 0, 1) := by decide +kernel
theorem dG_judge_25 : decode mG_judge.2.1 25 = .ok (.getfield 56, 3) := by decide +kernel
theorem dG_judge_28 : decode mG_judge.2.1 28 = .ok (.iload_n 1, 1) := by decide +kernel
theorem dG_judge_29 : decode mG_judge.2.1 29 = .ok (.invokevirtual 245, 3) := by decide +kernel
theorem dG_judge_32 : decode mG_judge.2.1 32 = .ok (.ifCond .ne 6, 3) := by decide +kernel
theorem dG_judge_35 : decode mG_judge.2.1 35 = .ok (.bipush (-12), 2) := by decide +kernel
theorem dG_judge_37 : decode mG_judge.2.1 37 = .ok (.ireturn, 1) := by decide +kernel
theorem dG_judge_38 : decode mG_judge.2.1 38 = .ok (.iconst 0, 1) := by decide +kernel
theorem dG_judge_39 : decode mG_judge.2.1 39 = .ok (.istore_n 3, 1) := by decide +kernel
theorem dG_judge_40 : decode mG_judge.2.1 40 = .ok (.iload_n 3, 1) := by decide +kernel
theorem dG_judge_41 : decode mG_judge.2.1 41 = .ok (.aload_n 0, 1) := by decide +kernel
theorem dG_judge_42 : decode mG_judge.2.1 42 = .ok (.getfield 12, 3) := by decide +kernel
theorem dG_judge_45 : decode mG_judge.2.1 45 = .ok (.getfield 164, 3) := by decide +kernel
theorem dG_judge_48 : decode mG_judge.2.1 48 = .ok (.if_icmp .ge 58, 3) := by decide +kernel
theorem dG_judge_51 : decode mG_judge.2.1 51 = .ok (.aload_n 0, 1) := by decide +kernel
theorem dG_judge_52 : decode mG_judge.2.1 52 = .ok (.getfield 56, 3) := by decide +kernel
theorem dG_judge_55 : decode mG_judge.2.1 55 = .ok (.iload_n 1, 1) := by decide +kernel
theorem dG_judge_56 : decode mG_judge.2.1 56 = .ok (.iload_n 2, 1) := by decide +kernel
theorem dG_judge_57 : decode mG_judge.2.1 57 = .ok (.iload_n 3, 1) := by decide +kernel
theorem dG_judge_58 : decode mG_judge.2.1 58 = .ok (.iadd, 1) := by decide +kernel
theorem dG_judge_59 : decode mG_judge.2.1 59 = .ok (.invokevirtual 248, 3) := by decide +kernel
theorem dG_judge_62 : decode mG_judge.2.1 62 = .ok (.ifCond .ne 8, 3) := by decide +kernel
theorem dG_judge_65 : decode mG_judge.2.1 65 = .ok (.bipush 100, 2) := by decide +kernel
theorem dG_judge_67 : decode mG_judge.2.1 67 = .ok (.iload_n 3, 1) := by decide +kernel
theorem dG_judge_68 : decode mG_judge.2.1 68 = .ok (.iadd, 1) := by decide +kernel
theorem dG_judge_69 : decode mG_judge.2.1 69 = .ok (.ireturn, 1) := by decide +kernel
theorem dG_judge_70 : decode mG_judge.2.1 70 = .ok (.aload_n 0, 1) := by decide +kernel
theorem dG_judge_71 : decode mG_judge.2.1 71 = .ok (.getfield 56, 3) := by decide +kernel
theorem dG_judge_74 : decode mG_judge.2.1 74 = .ok (.iload_n 1, 1) := by decide +kernel
theorem dG_judge_75 : decode mG_judge.2.1 75 = .ok (.iload_n 2, 1) := by decide +kernel
theorem dG_judge_76 : decode mG_judge.2.1 76 = .ok (.iload_n 3, 1) := by decide +kernel
theorem dG_judge_77 : decode mG_judge.2.1 77 = .ok (.iadd, 1) := by decide +kernel
theorem dG_judge_78 : decode mG_judge.2.1 78 = .ok (.invokevirtual 251, 3) := by decide +kernel
theorem dG_judge_81 : decode mG_judge.2.1 81 = .ok (.aload_n 0, 1) := by decide +kernel
theorem dG_judge_82 : decode mG_judge.2.1 82 = .ok (.getfield 12, 3) := by decide +kernel
theorem dG_judge_85 : decode mG_judge.2.1 85 = .ok (.getfield 255, 3) := by decide +kernel
theorem dG_judge_88 : decode mG_judge.2.1 88 = .ok (.iload_n 3, 1) := by decide +kernel
theorem dG_judge_89 : decode mG_judge.2.1 89 = .ok (.aaload, 1) := by decide +kernel
theorem dG_judge_90 : decode mG_judge.2.1 90 = .ok (.getfield 105, 3) := by decide +kernel
theorem dG_judge_93 : decode mG_judge.2.1 93 = .ok (.i2l, 1) := by decide +kernel
theorem dG_judge_94 : decode mG_judge.2.1 94 = .ok (.lcmp, 1) := by decide +kernel
theorem dG_judge_95 : decode mG_judge.2.1 95 = .ok (.ifCond .eq 5, 3) := by decide +kernel
theorem dG_judge_98 : decode mG_judge.2.1 98 = .ok (.iload_n 3, 1) := by decide +kernel
theorem dG_judge_99 : decode mG_judge.2.1 99 = .ok (.ireturn, 1) := by decide +kernel
theorem dG_judge_100 : decode mG_judge.2.1 100 = .ok (.iinc 3 1, 3) := by decide +kernel
theorem dG_judge_103 : decode mG_judge.2.1 103 = .ok (.goto (-63), 3) := by decide +kernel
theorem dG_judge_106 : decode mG_judge.2.1 106 = .ok (.bipush (-5), 2) := by decide +kernel
theorem dG_judge_108 : decode mG_judge.2.1 108 = .ok (.ireturn, 1) := by decide +kernel
theorem dG_image_0 : decode mG_image.2.1 0 = .ok (.aload_n 0, 1) := by decide +kernel
theorem dG_image_1 : decode mG_image.2.1 1 = .ok (.getfield 18, 3) := by decide +kernel
theorem dG_image_4 : decode mG_image.2.1 4 = .ok (.aload_n 0, 1) := by decide +kernel
theorem dG_image_5 : decode mG_image.2.1 5 = .ok (.getfield 12, 3) := by decide +kernel
theorem dG_image_8 : decode mG_image.2.1 8 = .ok (.invokevirtual 259, 3) := by decide +kernel
theorem dG_image_11 : decode mG_image.2.1 11 = .ok (.aload_n 0, 1) := by decide +kernel
theorem dG_image_12 : decode mG_image.2.1 12 = .ok (.iconst 1, 1) := by decide +kernel
theorem dG_image_13 : decode mG_image.2.1 13 = .ok (.putfield 263, 3) := by decide +kernel
theorem dG_image_16 : decode mG_image.2.1 16 = .ok (.aload_n 0, 1) := by decide +kernel
theorem dG_image_17 : decode mG_image.2.1 17 = .ok (.getfield 12, 3) := by decide +kernel
theorem dG_image_20 : decode mG_image.2.1 20 = .ok (.getfield 164, 3) := by decide +kernel
theorem dG_image_23 : decode mG_image.2.1 23 = .ok (.ireturn, 1) := by decide +kernel
theorem dG_undo_0 : decode mG_undo.2.1 0 = .ok (.aload_n 0, 1) := by decide +kernel
theorem dG_undo_1 : decode mG_undo.2.1 1 = .ok (.getfield 263, 3) := by decide +kernel
theorem dG_undo_4 : decode mG_undo.2.1 4 = .ok (.ifCond .ne 6, 3) := by decide +kernel
theorem dG_undo_7 : decode mG_undo.2.1 7 = .ok (.bipush (-3), 2) := by decide +kernel
theorem dG_undo_9 : decode mG_undo.2.1 9 = .ok (.ireturn, 1) := by decide +kernel
theorem dG_undo_10 : decode mG_undo.2.1 10 = .ok (.aload_n 0, 1) := by decide +kernel
theorem dG_undo_11 : decode mG_undo.2.1 11 = .ok (.getfield 12, 3) := by decide +kernel
theorem dG_undo_14 : decode mG_undo.2.1 14 = .ok (.aload_n 0, 1) := by decide +kernel
theorem dG_undo_15 : decode mG_undo.2.1 15 = .ok (.getfield 18, 3) := by decide +kernel
theorem dG_undo_18 : decode mG_undo.2.1 18 = .ok (.invokevirtual 259, 3) := by decide +kernel
theorem dG_undo_21 : decode mG_undo.2.1 21 = .ok (.aload_n 0, 1) := by decide +kernel
theorem dG_undo_22 : decode mG_undo.2.1 22 = .ok (.getfield 12, 3) := by decide +kernel
theorem dG_undo_25 : decode mG_undo.2.1 25 = .ok (.getfield 164, 3) := by decide +kernel
theorem dG_undo_28 : decode mG_undo.2.1 28 = .ok (.ireturn, 1) := by decide +kernel
theorem dG_act_0 : decode mG_act.2.1 0 = .ok (.aload_n 0, 1) := by decide +kernel
theorem dG_act_1 : decode mG_act.2.1 1 = .ok (.getfield 49, 3) := by decide +kernel
theorem dG_act_4 : decode mG_act.2.1 4 = .ok (.invokevirtual 267, 3) := by decide +kernel
theorem dG_act_7 : decode mG_act.2.1 7 = .ok (.aload_n 0, 1) := by decide +kernel
theorem dG_act_8 : decode mG_act.2.1 8 = .ok (.getfield 12, 3) := by decide +kernel
theorem dG_act_11 : decode mG_act.2.1 11 = .ok (.iload_n 1, 1) := by decide +kernel
theorem dG_act_12 : decode mG_act.2.1 12 = .ok (.invokevirtual 90, 3) := by decide +kernel
theorem dG_act_15 : decode mG_act.2.1 15 = .ok (.astore 4, 2) := by decide +kernel
theorem dG_act_17 : decode mG_act.2.1 17 = .ok (.aload 4, 2) := by decide +kernel
theorem dG_act_19 : decode mG_act.2.1 19 = .ok (.ifnull 11, 3) := by decide +kernel
theorem dG_act_22 : decode mG_act.2.1 22 = .ok (.iload_n 2, 1) := by decide +kernel
theorem dG_act_23 : decode mG_act.2.1 23 = .ok (.iconst 2, 1) := by decide +kernel
theorem dG_act_24 : decode mG_act.2.1 24 = .ok (.invokestatic 75, 3) := by decide +kernel
theorem dG_act_27 : decode mG_act.2.1 27 = .ok (.ifCond .ne 5, 3) := by decide +kernel
theorem dG_act_30 : decode mG_act.2.1 30 = .ok (.iconst 0, 1) := by decide +kernel
theorem dG_act_31 : decode mG_act.2.1 31 = .ok (.ireturn, 1) := by decide +kernel
theorem dG_act_32 : decode mG_act.2.1 32 = .ok (.aload_n 0, 1) := by decide +kernel
theorem dG_act_33 : decode mG_act.2.1 33 = .ok (.getfield 49, 3) := by decide +kernel
theorem dG_act_36 : decode mG_act.2.1 36 = .ok (.aload 4, 2) := by decide +kernel
theorem dG_act_38 : decode mG_act.2.1 38 = .ok (.iload_n 2, 1) := by decide +kernel
theorem dG_act_39 : decode mG_act.2.1 39 = .ok (.iload_n 3, 1) := by decide +kernel
theorem dG_act_40 : decode mG_act.2.1 40 = .ok (.invokevirtual 270, 3) := by decide +kernel
theorem dG_act_43 : decode mG_act.2.1 43 = .ok (.ireturn, 1) := by decide +kernel
theorem dG_trace_0 : decode mG_trace.2.1 0 = .ok (.aload_n 0, 1) := by decide +kernel
theorem dG_trace_1 : decode mG_trace.2.1 1 = .ok (.getfield 49, 3) := by decide +kernel
theorem dG_trace_4 : decode mG_trace.2.1 4 = .ok (.iload_n 1, 1) := by decide +kernel
theorem dG_trace_5 : decode mG_trace.2.1 5 = .ok (.invokevirtual 273, 3) := by decide +kernel
theorem dG_trace_8 : decode mG_trace.2.1 8 = .ok (.ireturn, 1) := by decide +kernel
theorem dG_taken_0 : decode mG_taken.2.1 0 = .ok (.iload_n 2, 1) := by decide +kernel
theorem dG_taken_1 : decode mG_taken.2.1 1 = .ok (.bipush 6, 2) := by decide +kernel
theorem dG_taken_3 : decode mG_taken.2.1 3 = .ok (.invokestatic 75, 3) := by decide +kernel
theorem dG_taken_6 : decode mG_taken.2.1 6 = .ok (.ifCond .ne 6, 3) := by decide +kernel
theorem dG_taken_9 : decode mG_taken.2.1 9 = .ok (.bipush (-2), 2) := by decide +kernel
theorem dG_taken_11 : decode mG_taken.2.1 11 = .ok (.ireturn, 1) := by decide +kernel
theorem dG_taken_12 : decode mG_taken.2.1 12 = .ok (.aload_n 0, 1) := by decide +kernel
theorem dG_taken_13 : decode mG_taken.2.1 13 = .ok (.getfield 12, 3) := by decide +kernel
theorem dG_taken_16 : decode mG_taken.2.1 16 = .ok (.iload_n 1, 1) := by decide +kernel
theorem dG_taken_17 : decode mG_taken.2.1 17 = .ok (.invokevirtual 90, 3) := by decide +kernel
theorem dG_taken_20 : decode mG_taken.2.1 20 = .ok (.astore_n 3, 1) := by decide +kernel
theorem dG_taken_21 : decode mG_taken.2.1 21 = .ok (.aload_n 3, 1) := by decide +kernel
theorem dG_taken_22 : decode mG_taken.2.1 22 = .ok (.ifnonnull 6, 3) := by decide +kernel
theorem dG_taken_25 : decode mG_taken.2.1 25 = .ok (.bipush (-11), 2) := by decide +kernel
theorem dG_taken_27 : decode mG_taken.2.1 27 = .ok (.ireturn, 1) := by decide +kernel
theorem dG_taken_28 : decode mG_taken.2.1 28 = .ok (.aload_n 3, 1) := by decide +kernel
theorem dG_taken_29 : decode mG_taken.2.1 29 = .ok (.getfield 94, 3) := by decide +kernel
theorem dG_taken_32 : decode mG_taken.2.1 32 = .ok (.iload_n 2, 1) := by decide +kernel
theorem dG_taken_33 : decode mG_taken.2.1 33 = .ok (.invokestatic 276, 3) := by decide +kernel
theorem dG_taken_36 : decode mG_taken.2.1 36 = .ok (.ifCond .eq 10, 3) := by decide +kernel
theorem dG_taken_39 : decode mG_taken.2.1 39 = .ok (.aload_n 3, 1) := by decide +kernel
theorem dG_taken_40 : decode mG_taken.2.1 40 = .ok (.getfield 94, 3) := by decide +kernel
theorem dG_taken_43 : decode mG_taken.2.1 43 = .ok (.goto 5, 3) := by decide +kernel
theorem dG_taken_46 : decode mG_taken.2.1 46 = .ok (.bipush (-12), 2) := by decide +kernel
theorem dG_taken_48 : decode mG_taken.2.1 48 = .ok (.ireturn, 1) := by decide +kernel
theorem dG_count_0 : decode mG_count.2.1 0 = .ok (.iload_n 1, 1) := by decide +kernel
theorem dG_count_1 : decode mG_count.2.1 1 = .ok (.tableswitch 105 0 6 #[43, 51, 59, 67, 78, 89, 97], 43) := by decide +kernel
theorem dG_count_44 : decode mG_count.2.1 44 = .ok (.aload_n 0, 1) := by decide +kernel
theorem dG_count_45 : decode mG_count.2.1 45 = .ok (.getfield 12, 3) := by decide +kernel
theorem dG_count_48 : decode mG_count.2.1 48 = .ok (.getfield 164, 3) := by decide +kernel
theorem dG_count_51 : decode mG_count.2.1 51 = .ok (.ireturn, 1) := by decide +kernel
theorem dG_count_52 : decode mG_count.2.1 52 = .ok (.aload_n 0, 1) := by decide +kernel
theorem dG_count_53 : decode mG_count.2.1 53 = .ok (.getfield 12, 3) := by decide +kernel
theorem dG_count_56 : decode mG_count.2.1 56 = .ok (.getfield 79, 3) := by decide +kernel
theorem dG_count_59 : decode mG_count.2.1 59 = .ok (.ireturn, 1) := by decide +kernel
theorem dG_count_60 : decode mG_count.2.1 60 = .ok (.aload_n 0, 1) := by decide +kernel
theorem dG_count_61 : decode mG_count.2.1 61 = .ok (.getfield 24, 3) := by decide +kernel
theorem dG_count_64 : decode mG_count.2.1 64 = .ok (.getfield 279, 3) := by decide +kernel
theorem dG_count_67 : decode mG_count.2.1 67 = .ok (.ireturn, 1) := by decide +kernel
theorem dG_count_68 : decode mG_count.2.1 68 = .ok (.aload_n 0, 1) := by decide +kernel
theorem dG_count_69 : decode mG_count.2.1 69 = .ok (.getfield 12, 3) := by decide +kernel
theorem dG_count_72 : decode mG_count.2.1 72 = .ok (.getfield 177, 3) := by decide +kernel
theorem dG_count_75 : decode mG_count.2.1 75 = .ok (.getfield 282, 3) := by decide +kernel
theorem dG_count_78 : decode mG_count.2.1 78 = .ok (.ireturn, 1) := by decide +kernel
theorem dG_count_79 : decode mG_count.2.1 79 = .ok (.aload_n 0, 1) := by decide +kernel
theorem dG_count_80 : decode mG_count.2.1 80 = .ok (.getfield 12, 3) := by decide +kernel
theorem dG_count_83 : decode mG_count.2.1 83 = .ok (.getfield 233, 3) := by decide +kernel
theorem dG_count_86 : decode mG_count.2.1 86 = .ok (.getfield 282, 3) := by decide +kernel
theorem dG_count_89 : decode mG_count.2.1 89 = .ok (.ireturn, 1) := by decide +kernel
theorem dG_count_90 : decode mG_count.2.1 90 = .ok (.aload_n 0, 1) := by decide +kernel
theorem dG_count_91 : decode mG_count.2.1 91 = .ok (.getfield 24, 3) := by decide +kernel
theorem dG_count_94 : decode mG_count.2.1 94 = .ok (.getfield 285, 3) := by decide +kernel
theorem dG_count_97 : decode mG_count.2.1 97 = .ok (.ireturn, 1) := by decide +kernel
theorem dG_count_98 : decode mG_count.2.1 98 = .ok (.aload_n 0, 1) := by decide +kernel
theorem dG_count_99 : decode mG_count.2.1 99 = .ok (.getfield 49, 3) := by decide +kernel
theorem dG_count_102 : decode mG_count.2.1 102 = .ok (.getfield 288, 3) := by decide +kernel
theorem dG_count_105 : decode mG_count.2.1 105 = .ok (.ireturn, 1) := by decide +kernel
theorem dG_count_106 : decode mG_count.2.1 106 = .ok (.bipush (-2), 2) := by decide +kernel
theorem dG_count_108 : decode mG_count.2.1 108 = .ok (.ireturn, 1) := by decide +kernel
theorem dG_tape_0 : decode mG_tape.2.1 0 = .ok (.aload_n 0, 1) := by decide +kernel
theorem dG_tape_1 : decode mG_tape.2.1 1 = .ok (.getfield 56, 3) := by decide +kernel
theorem dG_tape_4 : decode mG_tape.2.1 4 = .ok (.iload_n 1, 1) := by decide +kernel
theorem dG_tape_5 : decode mG_tape.2.1 5 = .ok (.invokevirtual 239, 3) := by decide +kernel
theorem dG_tape_8 : decode mG_tape.2.1 8 = .ok (.ifCond .ne 5, 3) := by decide +kernel
theorem dG_tape_11 : decode mG_tape.2.1 11 = .ok (.iconst (-1), 1) := by decide +kernel
theorem dG_tape_12 : decode mG_tape.2.1 12 = .ok (.ireturn, 1) := by decide +kernel
theorem dG_tape_13 : decode mG_tape.2.1 13 = .ok (.iload_n 2, 1) := by decide +kernel
theorem dG_tape_14 : decode mG_tape.2.1 14 = .ok (.iconst (-1), 1) := by decide +kernel
theorem dG_tape_15 : decode mG_tape.2.1 15 = .ok (.if_icmp .ne 15, 3) := by decide +kernel
theorem dG_tape_18 : decode mG_tape.2.1 18 = .ok (.aload_n 0, 1) := by decide +kernel
theorem dG_tape_19 : decode mG_tape.2.1 19 = .ok (.getfield 56, 3) := by decide +kernel
theorem dG_tape_22 : decode mG_tape.2.1 22 = .ok (.iload_n 1, 1) := by decide +kernel
theorem dG_tape_23 : decode mG_tape.2.1 23 = .ok (.iload_n 2, 1) := by decide +kernel
theorem dG_tape_24 : decode mG_tape.2.1 24 = .ok (.iconst 0, 1) := by decide +kernel
theorem dG_tape_25 : decode mG_tape.2.1 25 = .ok (.invokevirtual 291, 3) := by decide +kernel
theorem dG_tape_28 : decode mG_tape.2.1 28 = .ok (.iconst 1, 1) := by decide +kernel
theorem dG_tape_29 : decode mG_tape.2.1 29 = .ok (.ireturn, 1) := by decide +kernel
theorem dG_tape_30 : decode mG_tape.2.1 30 = .ok (.iload_n 2, 1) := by decide +kernel
theorem dG_tape_31 : decode mG_tape.2.1 31 = .ok (.iconst 4, 1) := by decide +kernel
theorem dG_tape_32 : decode mG_tape.2.1 32 = .ok (.invokestatic 75, 3) := by decide +kernel
theorem dG_tape_35 : decode mG_tape.2.1 35 = .ok (.ifCond .eq 9, 3) := by decide +kernel
theorem dG_tape_38 : decode mG_tape.2.1 38 = .ok (.iload_n 3, 1) := by decide +kernel
theorem dG_tape_39 : decode mG_tape.2.1 39 = .ok (.bipush 60, 2) := by decide +kernel
theorem dG_tape_41 : decode mG_tape.2.1 41 = .ok (.if_icmp .le 6, 3) := by decide +kernel
theorem dG_tape_44 : decode mG_tape.2.1 44 = .ok (.bipush (-2), 2) := by decide +kernel
theorem dG_tape_46 : decode mG_tape.2.1 46 = .ok (.ireturn, 1) := by decide +kernel
theorem dG_tape_47 : decode mG_tape.2.1 47 = .ok (.iload_n 3, 1) := by decide +kernel
theorem dG_tape_48 : decode mG_tape.2.1 48 = .ok (.ifCond .ge 6, 3) := by decide +kernel
theorem dG_tape_51 : decode mG_tape.2.1 51 = .ok (.bipush (-14), 2) := by decide +kernel
theorem dG_tape_53 : decode mG_tape.2.1 53 = .ok (.ireturn, 1) := by decide +kernel
theorem dG_tape_54 : decode mG_tape.2.1 54 = .ok (.aload_n 0, 1) := by decide +kernel
theorem dG_tape_55 : decode mG_tape.2.1 55 = .ok (.getfield 56, 3) := by decide +kernel
theorem dG_tape_58 : decode mG_tape.2.1 58 = .ok (.iload_n 1, 1) := by decide +kernel
theorem dG_tape_59 : decode mG_tape.2.1 59 = .ok (.iload_n 2, 1) := by decide +kernel
theorem dG_tape_60 : decode mG_tape.2.1 60 = .ok (.iload_n 3, 1) := by decide +kernel
theorem dG_tape_61 : decode mG_tape.2.1 61 = .ok (.invokevirtual 291, 3) := by decide +kernel
theorem dG_tape_64 : decode mG_tape.2.1 64 = .ok (.iconst 1, 1) := by decide +kernel
theorem dG_tape_65 : decode mG_tape.2.1 65 = .ok (.ireturn, 1) := by decide +kernel
theorem dG_item_0 : decode mG_item.2.1 0 = .ok (.aload_n 0, 1) := by decide +kernel
theorem dG_item_1 : decode mG_item.2.1 1 = .ok (.getfield 56, 3) := by decide +kernel
theorem dG_item_4 : decode mG_item.2.1 4 = .ok (.iload_n 1, 1) := by decide +kernel
theorem dG_item_5 : decode mG_item.2.1 5 = .ok (.invokevirtual 239, 3) := by decide +kernel
theorem dG_item_8 : decode mG_item.2.1 8 = .ok (.ifCond .ne 5, 3) := by decide +kernel
theorem dG_item_11 : decode mG_item.2.1 11 = .ok (.iconst (-1), 1) := by decide +kernel
theorem dG_item_12 : decode mG_item.2.1 12 = .ok (.ireturn, 1) := by decide +kernel
theorem dG_item_13 : decode mG_item.2.1 13 = .ok (.aload_n 0, 1) := by decide +kernel
theorem dG_item_14 : decode mG_item.2.1 14 = .ok (.getfield 56, 3) := by decide +kernel
theorem dG_item_17 : decode mG_item.2.1 17 = .ok (.iload_n 1, 1) := by decide +kernel
theorem dG_item_18 : decode mG_item.2.1 18 = .ok (.invokevirtual 242, 3) := by decide +kernel
theorem dG_item_21 : decode mG_item.2.1 21 = .ok (.ifCond .ne 6, 3) := by decide +kernel
theorem dG_item_24 : decode mG_item.2.1 24 = .ok (.bipush (-11), 2) := by decide +kernel
theorem dG_item_26 : decode mG_item.2.1 26 = .ok (.ireturn, 1) := by decide +kernel
theorem dG_item_27 : decode mG_item.2.1 27 = .ok (.aload_n 0, 1) := by decide +kernel
theorem dG_item_28 : decode mG_item.2.1 28 = .ok (.getfield 56, 3) := by decide +kernel
theorem dG_item_31 : decode mG_item.2.1 31 = .ok (.iload_n 1, 1) := by decide +kernel
theorem dG_item_32 : decode mG_item.2.1 32 = .ok (.iload_n 2, 1) := by decide +kernel
theorem dG_item_33 : decode mG_item.2.1 33 = .ok (.invokevirtual 248, 3) := by decide +kernel
theorem dG_item_36 : decode mG_item.2.1 36 = .ok (.ifCond .ne 6, 3) := by decide +kernel
theorem dG_item_39 : decode mG_item.2.1 39 = .ok (.bipush (-13), 2) := by decide +kernel
theorem dG_item_41 : decode mG_item.2.1 41 = .ok (.ireturn, 1) := by decide +kernel
theorem dG_item_42 : decode mG_item.2.1 42 = .ok (.aload_n 0, 1) := by decide +kernel
theorem dG_item_43 : decode mG_item.2.1 43 = .ok (.getfield 56, 3) := by decide +kernel
theorem dG_item_46 : decode mG_item.2.1 46 = .ok (.iload_n 1, 1) := by decide +kernel
theorem dG_item_47 : decode mG_item.2.1 47 = .ok (.iload_n 2, 1) := by decide +kernel
theorem dG_item_48 : decode mG_item.2.1 48 = .ok (.lload_n 3, 1) := by decide +kernel
theorem dG_item_49 : decode mG_item.2.1 49 = .ok (.invokevirtual 295, 3) := by decide +kernel
theorem dG_item_52 : decode mG_item.2.1 52 = .ok (.iconst 1, 1) := by decide +kernel
theorem dG_item_53 : decode mG_item.2.1 53 = .ok (.ireturn, 1) := by decide +kernel
theorem dG_read_0 : decode mG_read.2.1 0 = .ok (.aload_n 0, 1) := by decide +kernel
theorem dG_read_1 : decode mG_read.2.1 1 = .ok (.getfield 56, 3) := by decide +kernel
theorem dG_read_4 : decode mG_read.2.1 4 = .ok (.iload_n 1, 1) := by decide +kernel
theorem dG_read_5 : decode mG_read.2.1 5 = .ok (.invokevirtual 239, 3) := by decide +kernel
theorem dG_read_8 : decode mG_read.2.1 8 = .ok (.ifCond .eq 15, 3) := by decide +kernel
theorem dG_read_11 : decode mG_read.2.1 11 = .ok (.aload_n 0, 1) := by decide +kernel
theorem dG_read_12 : decode mG_read.2.1 12 = .ok (.getfield 56, 3) := by decide +kernel
theorem dG_read_15 : decode mG_read.2.1 15 = .ok (.iload_n 1, 1) := by decide +kernel
theorem dG_read_16 : decode mG_read.2.1 16 = .ok (.iload_n 2, 1) := by decide +kernel
theorem dG_read_17 : decode mG_read.2.1 17 = .ok (.invokevirtual 248, 3) := by decide +kernel
theorem dG_read_20 : decode mG_read.2.1 20 = .ok (.ifCond .ne 7, 3) := by decide +kernel
theorem dG_read_23 : decode mG_read.2.1 23 = .ok (.ldc2_w 153, 3) := by decide +kernel
theorem dG_read_26 : decode mG_read.2.1 26 = .ok (.lreturn, 1) := by decide +kernel
theorem dG_read_27 : decode mG_read.2.1 27 = .ok (.aload_n 0, 1) := by decide +kernel
theorem dG_read_28 : decode mG_read.2.1 28 = .ok (.getfield 56, 3) := by decide +kernel
theorem dG_read_31 : decode mG_read.2.1 31 = .ok (.iload_n 1, 1) := by decide +kernel
theorem dG_read_32 : decode mG_read.2.1 32 = .ok (.iload_n 2, 1) := by decide +kernel
theorem dG_read_33 : decode mG_read.2.1 33 = .ok (.invokevirtual 251, 3) := by decide +kernel
theorem dG_read_36 : decode mG_read.2.1 36 = .ok (.lreturn, 1) := by decide +kernel
theorem dG_shift_0 : decode mG_shift.2.1 0 = .ok (.aload_n 0, 1) := by decide +kernel
theorem dG_shift_1 : decode mG_shift.2.1 1 = .ok (.getfield 56, 3) := by decide +kernel
theorem dG_shift_4 : decode mG_shift.2.1 4 = .ok (.iload_n 1, 1) := by decide +kernel
theorem dG_shift_5 : decode mG_shift.2.1 5 = .ok (.invokevirtual 239, 3) := by decide +kernel
theorem dG_shift_8 : decode mG_shift.2.1 8 = .ok (.ifCond .eq 14, 3) := by decide +kernel
theorem dG_shift_11 : decode mG_shift.2.1 11 = .ok (.aload_n 0, 1) := by decide +kernel
theorem dG_shift_12 : decode mG_shift.2.1 12 = .ok (.getfield 56, 3) := by decide +kernel
theorem dG_shift_15 : decode mG_shift.2.1 15 = .ok (.iload_n 3, 1) := by decide +kernel
theorem dG_shift_16 : decode mG_shift.2.1 16 = .ok (.invokevirtual 239, 3) := by decide +kernel
theorem dG_shift_19 : decode mG_shift.2.1 19 = .ok (.ifCond .ne 5, 3) := by decide +kernel
theorem dG_shift_22 : decode mG_shift.2.1 22 = .ok (.iconst (-1), 1) := by decide +kernel
theorem dG_shift_23 : decode mG_shift.2.1 23 = .ok (.ireturn, 1) := by decide +kernel
theorem dG_shift_24 : decode mG_shift.2.1 24 = .ok (.aload_n 0, 1) := by decide +kernel
theorem dG_shift_25 : decode mG_shift.2.1 25 = .ok (.getfield 56, 3) := by decide +kernel
theorem dG_shift_28 : decode mG_shift.2.1 28 = .ok (.iload_n 1, 1) := by decide +kernel
theorem dG_shift_29 : decode mG_shift.2.1 29 = .ok (.invokevirtual 242, 3) := by decide +kernel
theorem dG_shift_32 : decode mG_shift.2.1 32 = .ok (.ifCond .eq 14, 3) := by decide +kernel
theorem dG_shift_35 : decode mG_shift.2.1 35 = .ok (.aload_n 0, 1) := by decide +kernel
theorem dG_shift_36 : decode mG_shift.2.1 36 = .ok (.getfield 56, 3) := by decide +kernel
theorem dG_shift_39 : decode mG_shift.2.1 39 = .ok (.iload_n 3, 1) := by decide +kernel
theorem dG_shift_40 : decode mG_shift.2.1 40 = .ok (.invokevirtual 242, 3) := by decide +kernel
theorem dG_shift_43 : decode mG_shift.2.1 43 = .ok (.ifCond .ne 6, 3) := by decide +kernel
theorem dG_shift_46 : decode mG_shift.2.1 46 = .ok (.bipush (-11), 2) := by decide +kernel
theorem dG_shift_48 : decode mG_shift.2.1 48 = .ok (.ireturn, 1) := by decide +kernel
theorem dG_shift_49 : decode mG_shift.2.1 49 = .ok (.aload_n 0, 1) := by decide +kernel
theorem dG_shift_50 : decode mG_shift.2.1 50 = .ok (.getfield 56, 3) := by decide +kernel
theorem dG_shift_53 : decode mG_shift.2.1 53 = .ok (.getfield 299, 3) := by decide +kernel
theorem dG_shift_56 : decode mG_shift.2.1 56 = .ok (.iload_n 1, 1) := by decide +kernel
theorem dG_shift_57 : decode mG_shift.2.1 57 = .ok (.iaload, 1) := by decide +kernel
theorem dG_shift_58 : decode mG_shift.2.1 58 = .ok (.aload_n 0, 1) := by decide +kernel
theorem dG_shift_59 : decode mG_shift.2.1 59 = .ok (.getfield 56, 3) := by decide +kernel
theorem dG_shift_62 : decode mG_shift.2.1 62 = .ok (.getfield 299, 3) := by decide +kernel
theorem dG_shift_65 : decode mG_shift.2.1 65 = .ok (.iload_n 3, 1) := by decide +kernel
theorem dG_shift_66 : decode mG_shift.2.1 66 = .ok (.iaload, 1) := by decide +kernel
theorem dG_shift_67 : decode mG_shift.2.1 67 = .ok (.if_icmp .eq 6, 3) := by decide +kernel
theorem dG_shift_70 : decode mG_shift.2.1 70 = .ok (.bipush (-12), 2) := by decide +kernel
theorem dG_shift_72 : decode mG_shift.2.1 72 = .ok (.ireturn, 1) := by decide +kernel
theorem dG_shift_73 : decode mG_shift.2.1 73 = .ok (.aload_n 0, 1) := by decide +kernel
theorem dG_shift_74 : decode mG_shift.2.1 74 = .ok (.getfield 56, 3) := by decide +kernel
theorem dG_shift_77 : decode mG_shift.2.1 77 = .ok (.iload_n 1, 1) := by decide +kernel
theorem dG_shift_78 : decode mG_shift.2.1 78 = .ok (.iload_n 2, 1) := by decide +kernel
theorem dG_shift_79 : decode mG_shift.2.1 79 = .ok (.iload 5, 2) := by decide +kernel
theorem dG_shift_81 : decode mG_shift.2.1 81 = .ok (.invokevirtual 302, 3) := by decide +kernel
theorem dG_shift_84 : decode mG_shift.2.1 84 = .ok (.ifCond .eq 18, 3) := by decide +kernel
theorem dG_shift_87 : decode mG_shift.2.1 87 = .ok (.aload_n 0, 1) := by decide +kernel
theorem dG_shift_88 : decode mG_shift.2.1 88 = .ok (.getfield 56, 3) := by decide +kernel
theorem dG_shift_91 : decode mG_shift.2.1 91 = .ok (.iload_n 3, 1) := by decide +kernel
theorem dG_shift_92 : decode mG_shift.2.1 92 = .ok (.iload 4, 2) := by decide +kernel
theorem dG_shift_94 : decode mG_shift.2.1 94 = .ok (.iload 5, 2) := by decide +kernel
theorem dG_shift_96 : decode mG_shift.2.1 96 = .ok (.invokevirtual 302, 3) := by decide +kernel
theorem dG_shift_99 : decode mG_shift.2.1 99 = .ok (.ifCond .ne 6, 3) := by decide +kernel
theorem dG_shift_102 : decode mG_shift.2.1 102 = .ok (.bipush (-13), 2) := by decide +kernel
theorem dG_shift_104 : decode mG_shift.2.1 104 = .ok (.ireturn, 1) := by decide +kernel
theorem dG_shift_105 : decode mG_shift.2.1 105 = .ok (.aload_n 0, 1) := by decide +kernel
theorem dG_shift_106 : decode mG_shift.2.1 106 = .ok (.getfield 56, 3) := by decide +kernel
theorem dG_shift_109 : decode mG_shift.2.1 109 = .ok (.getfield 306, 3) := by decide +kernel
theorem dG_shift_112 : decode mG_shift.2.1 112 = .ok (.iload_n 1, 1) := by decide +kernel
theorem dG_shift_113 : decode mG_shift.2.1 113 = .ok (.aaload, 1) := by decide +kernel
theorem dG_shift_114 : decode mG_shift.2.1 114 = .ok (.iload_n 2, 1) := by decide +kernel
theorem dG_shift_115 : decode mG_shift.2.1 115 = .ok (.aload_n 0, 1) := by decide +kernel
theorem dG_shift_116 : decode mG_shift.2.1 116 = .ok (.getfield 56, 3) := by decide +kernel
theorem dG_shift_119 : decode mG_shift.2.1 119 = .ok (.getfield 306, 3) := by decide +kernel
theorem dG_shift_122 : decode mG_shift.2.1 122 = .ok (.iload_n 3, 1) := by decide +kernel
theorem dG_shift_123 : decode mG_shift.2.1 123 = .ok (.aaload, 1) := by decide +kernel
theorem dG_shift_124 : decode mG_shift.2.1 124 = .ok (.iload 4, 2) := by decide +kernel
theorem dG_shift_126 : decode mG_shift.2.1 126 = .ok (.iload 5, 2) := by decide +kernel
theorem dG_shift_128 : decode mG_shift.2.1 128 = .ok (.invokestatic 310, 3) := by decide +kernel
theorem dG_shift_131 : decode mG_shift.2.1 131 = .ok (.iload 5, 2) := by decide +kernel
theorem dG_shift_133 : decode mG_shift.2.1 133 = .ok (.ireturn, 1) := by decide +kernel
theorem dG_isUpTo_0 : decode mG_isUpTo.2.1 0 = .ok (.iload_n 0, 1) := by decide +kernel
theorem dG_isUpTo_1 : decode mG_isUpTo.2.1 1 = .ok (.ifCond .lt 12, 3) := by decide +kernel
theorem dG_isUpTo_4 : decode mG_isUpTo.2.1 4 = .ok (.iload_n 0, 1) := by decide +kernel
theorem dG_isUpTo_5 : decode mG_isUpTo.2.1 5 = .ok (.iload_n 1, 1) := by decide +kernel
theorem dG_isUpTo_6 : decode mG_isUpTo.2.1 6 = .ok (.if_icmp .gt 7, 3) := by decide +kernel
theorem dG_isUpTo_9 : decode mG_isUpTo.2.1 9 = .ok (.iconst 1, 1) := by decide +kernel
theorem dG_isUpTo_10 : decode mG_isUpTo.2.1 10 = .ok (.goto 4, 3) := by decide +kernel
theorem dG_isUpTo_13 : decode mG_isUpTo.2.1 13 = .ok (.iconst 0, 1) := by decide +kernel
theorem dG_isUpTo_14 : decode mG_isUpTo.2.1 14 = .ok (.ireturn, 1) := by decide +kernel
theorem dG_isChance_0 : decode mG_isChance.2.1 0 = .ok (.iload_n 0, 1) := by decide +kernel
theorem dG_isChance_1 : decode mG_isChance.2.1 1 = .ok (.iconst 1, 1) := by decide +kernel
theorem dG_isChance_2 : decode mG_isChance.2.1 2 = .ok (.if_icmp .lt 13, 3) := by decide +kernel
theorem dG_isChance_5 : decode mG_isChance.2.1 5 = .ok (.iload_n 0, 1) := by decide +kernel
theorem dG_isChance_6 : decode mG_isChance.2.1 6 = .ok (.bipush 30, 2) := by decide +kernel
theorem dG_isChance_8 : decode mG_isChance.2.1 8 = .ok (.if_icmp .gt 7, 3) := by decide +kernel
theorem dG_isChance_11 : decode mG_isChance.2.1 11 = .ok (.iconst 1, 1) := by decide +kernel
theorem dG_isChance_12 : decode mG_isChance.2.1 12 = .ok (.goto 4, 3) := by decide +kernel
theorem dG_isChance_15 : decode mG_isChance.2.1 15 = .ok (.iconst 0, 1) := by decide +kernel
theorem dG_isChance_16 : decode mG_isChance.2.1 16 = .ok (.ireturn, 1) := by decide +kernel
theorem dG_isWithin_0 : decode mG_isWithin.2.1 0 = .ok (.iload_n 0, 1) := by decide +kernel
theorem dG_isWithin_1 : decode mG_isWithin.2.1 1 = .ok (.iload_n 1, 1) := by decide +kernel
theorem dG_isWithin_2 : decode mG_isWithin.2.1 2 = .ok (.ishr, 1) := by decide +kernel
theorem dG_isWithin_3 : decode mG_isWithin.2.1 3 = .ok (.ifCond .ne 7, 3) := by decide +kernel
theorem dG_isWithin_6 : decode mG_isWithin.2.1 6 = .ok (.iconst 1, 1) := by decide +kernel
theorem dG_isWithin_7 : decode mG_isWithin.2.1 7 = .ok (.goto 4, 3) := by decide +kernel
theorem dG_isWithin_10 : decode mG_isWithin.2.1 10 = .ok (.iconst 0, 1) := by decide +kernel
theorem dG_isWithin_11 : decode mG_isWithin.2.1 11 = .ok (.ireturn, 1) := by decide +kernel
theorem dG_hasBit_0 : decode mG_hasBit.2.1 0 = .ok (.iload_n 0, 1) := by decide +kernel
theorem dG_hasBit_1 : decode mG_hasBit.2.1 1 = .ok (.iload_n 1, 1) := by decide +kernel
theorem dG_hasBit_2 : decode mG_hasBit.2.1 2 = .ok (.ishr, 1) := by decide +kernel
theorem dG_hasBit_3 : decode mG_hasBit.2.1 3 = .ok (.iconst 1, 1) := by decide +kernel
theorem dG_hasBit_4 : decode mG_hasBit.2.1 4 = .ok (.iand, 1) := by decide +kernel
theorem dG_hasBit_5 : decode mG_hasBit.2.1 5 = .ok (.ifCond .eq 7, 3) := by decide +kernel
theorem dG_hasBit_8 : decode mG_hasBit.2.1 8 = .ok (.iconst 1, 1) := by decide +kernel
theorem dG_hasBit_9 : decode mG_hasBit.2.1 9 = .ok (.goto 4, 3) := by decide +kernel
theorem dG_hasBit_12 : decode mG_hasBit.2.1 12 = .ok (.iconst 0, 1) := by decide +kernel
theorem dG_hasBit_13 : decode mG_hasBit.2.1 13 = .ok (.ireturn, 1) := by decide +kernel
theorem dG_isUnder_0 : decode mG_isUnder.2.1 0 = .ok (.iload_n 0, 1) := by decide +kernel
theorem dG_isUnder_1 : decode mG_isUnder.2.1 1 = .ok (.istore_n 2, 1) := by decide +kernel
theorem dG_isUnder_2 : decode mG_isUnder.2.1 2 = .ok (.iconst 0, 1) := by decide +kernel
theorem dG_isUnder_3 : decode mG_isUnder.2.1 3 = .ok (.istore_n 3, 1) := by decide +kernel
theorem dG_isUnder_4 : decode mG_isUnder.2.1 4 = .ok (.iload_n 3, 1) := by decide +kernel
theorem dG_isUnder_5 : decode mG_isUnder.2.1 5 = .ok (.getstatic 316, 3) := by decide +kernel
theorem dG_isUnder_8 : decode mG_isUnder.2.1 8 = .ok (.arraylength, 1) := by decide +kernel
theorem dG_isUnder_9 : decode mG_isUnder.2.1 9 = .ok (.if_icmp .ge 36, 3) := by decide +kernel
theorem dG_isUnder_12 : decode mG_isUnder.2.1 12 = .ok (.iload_n 2, 1) := by decide +kernel
theorem dG_isUnder_13 : decode mG_isUnder.2.1 13 = .ok (.iload_n 1, 1) := by decide +kernel
theorem dG_isUnder_14 : decode mG_isUnder.2.1 14 = .ok (.if_icmp .ne 5, 3) := by decide +kernel
theorem dG_isUnder_17 : decode mG_isUnder.2.1 17 = .ok (.iconst 1, 1) := by decide +kernel
theorem dG_isUnder_18 : decode mG_isUnder.2.1 18 = .ok (.ireturn, 1) := by decide +kernel
theorem dG_isUnder_19 : decode mG_isUnder.2.1 19 = .ok (.iload_n 2, 1) := by decide +kernel
theorem dG_isUnder_20 : decode mG_isUnder.2.1 20 = .ok (.ifCond .lt 11, 3) := by decide +kernel
theorem dG_isUnder_23 : decode mG_isUnder.2.1 23 = .ok (.iload_n 2, 1) := by decide +kernel
theorem dG_isUnder_24 : decode mG_isUnder.2.1 24 = .ok (.getstatic 316, 3) := by decide +kernel
theorem dG_isUnder_27 : decode mG_isUnder.2.1 27 = .ok (.arraylength, 1) := by decide +kernel
theorem dG_isUnder_28 : decode mG_isUnder.2.1 28 = .ok (.if_icmp .lt 5, 3) := by decide +kernel
theorem dG_isUnder_31 : decode mG_isUnder.2.1 31 = .ok (.iconst 0, 1) := by decide +kernel
theorem dG_isUnder_32 : decode mG_isUnder.2.1 32 = .ok (.ireturn, 1) := by decide +kernel
theorem dG_isUnder_33 : decode mG_isUnder.2.1 33 = .ok (.getstatic 316, 3) := by decide +kernel
theorem dG_isUnder_36 : decode mG_isUnder.2.1 36 = .ok (.iload_n 2, 1) := by decide +kernel
theorem dG_isUnder_37 : decode mG_isUnder.2.1 37 = .ok (.iaload, 1) := by decide +kernel
theorem dG_isUnder_38 : decode mG_isUnder.2.1 38 = .ok (.istore_n 2, 1) := by decide +kernel
theorem dG_isUnder_39 : decode mG_isUnder.2.1 39 = .ok (.iinc 3 1, 3) := by decide +kernel
theorem dG_isUnder_42 : decode mG_isUnder.2.1 42 = .ok (.goto (-38), 3) := by decide +kernel
theorem dG_isUnder_45 : decode mG_isUnder.2.1 45 = .ok (.iconst 0, 1) := by decide +kernel
theorem dG_isUnder_46 : decode mG_isUnder.2.1 46 = .ok (.ireturn, 1) := by decide +kernel
theorem dG_fractionPart_0 : decode mG_fractionPart.2.1 0 = .ok (.iload_n 2, 1) := by decide +kernel
theorem dG_fractionPart_1 : decode mG_fractionPart.2.1 1 = .ok (.iconst 1, 1) := by decide +kernel
theorem dG_fractionPart_2 : decode mG_fractionPart.2.1 2 = .ok (.invokestatic 75, 3) := by decide +kernel
theorem dG_fractionPart_5 : decode mG_fractionPart.2.1 5 = .ok (.ifCond .eq 7, 3) := by decide +kernel
theorem dG_fractionPart_8 : decode mG_fractionPart.2.1 8 = .ok (.iload_n 1, 1) := by decide +kernel
theorem dG_fractionPart_9 : decode mG_fractionPart.2.1 9 = .ok (.ifCond .gt 7, 3) := by decide +kernel
theorem dG_fractionPart_12 : decode mG_fractionPart.2.1 12 = .ok (.ldc2_w 153, 3) := by decide +kernel
theorem dG_fractionPart_15 : decode mG_fractionPart.2.1 15 = .ok (.lreturn, 1) := by decide +kernel
theorem dG_fractionPart_16 : decode mG_fractionPart.2.1 16 = .ok (.iload_n 1, 1) := by decide +kernel
theorem dG_fractionPart_17 : decode mG_fractionPart.2.1 17 = .ok (.iload_n 0, 1) := by decide +kernel
theorem dG_fractionPart_18 : decode mG_fractionPart.2.1 18 = .ok (.invokestatic 319, 3) := by decide +kernel
theorem dG_fractionPart_21 : decode mG_fractionPart.2.1 21 = .ok (.istore_n 3, 1) := by decide +kernel
theorem dG_fractionPart_22 : decode mG_fractionPart.2.1 22 = .ok (.iload_n 3, 1) := by decide +kernel
theorem dG_fractionPart_23 : decode mG_fractionPart.2.1 23 = .ok (.ifCond .gt 7, 3) := by decide +kernel
theorem dG_fractionPart_26 : decode mG_fractionPart.2.1 26 = .ok (.ldc2_w 153, 3) := by decide +kernel
theorem dG_fractionPart_29 : decode mG_fractionPart.2.1 29 = .ok (.lreturn, 1) := by decide +kernel
theorem dG_fractionPart_30 : decode mG_fractionPart.2.1 30 = .ok (.iload_n 2, 1) := by decide +kernel
theorem dG_fractionPart_31 : decode mG_fractionPart.2.1 31 = .ok (.ifCond .ne 7, 3) := by decide +kernel
theorem dG_fractionPart_34 : decode mG_fractionPart.2.1 34 = .ok (.iload_n 0, 1) := by decide +kernel
theorem dG_fractionPart_35 : decode mG_fractionPart.2.1 35 = .ok (.goto 4, 3) := by decide +kernel
theorem dG_fractionPart_38 : decode mG_fractionPart.2.1 38 = .ok (.iload_n 1, 1) := by decide +kernel
theorem dG_fractionPart_39 : decode mG_fractionPart.2.1 39 = .ok (.iload_n 3, 1) := by decide +kernel
theorem dG_fractionPart_40 : decode mG_fractionPart.2.1 40 = .ok (.idiv, 1) := by decide +kernel
theorem dG_fractionPart_41 : decode mG_fractionPart.2.1 41 = .ok (.i2l, 1) := by decide +kernel
theorem dG_fractionPart_42 : decode mG_fractionPart.2.1 42 = .ok (.lreturn, 1) := by decide +kernel
theorem dG_greatestShared_0 : decode mG_greatestShared.2.1 0 = .ok (.iload_n 0, 1) := by decide +kernel
theorem dG_greatestShared_1 : decode mG_greatestShared.2.1 1 = .ok (.istore_n 2, 1) := by decide +kernel
theorem dG_greatestShared_2 : decode mG_greatestShared.2.1 2 = .ok (.iload_n 1, 1) := by decide +kernel
theorem dG_greatestShared_3 : decode mG_greatestShared.2.1 3 = .ok (.istore_n 3, 1) := by decide +kernel
theorem dG_greatestShared_4 : decode mG_greatestShared.2.1 4 = .ok (.iconst 0, 1) := by decide +kernel
theorem dG_greatestShared_5 : decode mG_greatestShared.2.1 5 = .ok (.istore 4, 2) := by decide +kernel
theorem dG_greatestShared_7 : decode mG_greatestShared.2.1 7 = .ok (.iload 4, 2) := by decide +kernel
theorem dG_greatestShared_9 : decode mG_greatestShared.2.1 9 = .ok (.bipush 64, 2) := by decide +kernel
theorem dG_greatestShared_11 : decode mG_greatestShared.2.1 11 = .ok (.if_icmp .ge 23, 3) := by decide +kernel
theorem dG_greatestShared_14 : decode mG_greatestShared.2.1 14 = .ok (.iload_n 3, 1) := by decide +kernel
theorem dG_greatestShared_15 : decode mG_greatestShared.2.1 15 = .ok (.ifCond .eq 19, 3) := by decide +kernel
theorem dG_greatestShared_18 : decode mG_greatestShared.2.1 18 = .ok (.iload_n 2, 1) := by decide +kernel
theorem dG_greatestShared_19 : decode mG_greatestShared.2.1 19 = .ok (.iload_n 3, 1) := by decide +kernel
theorem dG_greatestShared_20 : decode mG_greatestShared.2.1 20 = .ok (.irem, 1) := by decide +kernel
theorem dG_greatestShared_21 : decode mG_greatestShared.2.1 21 = .ok (.istore 5, 2) := by decide +kernel
theorem dG_greatestShared_23 : decode mG_greatestShared.2.1 23 = .ok (.iload_n 3, 1) := by decide +kernel
theorem dG_greatestShared_24 : decode mG_greatestShared.2.1 24 = .ok (.istore_n 2, 1) := by decide +kernel
theorem dG_greatestShared_25 : decode mG_greatestShared.2.1 25 = .ok (.iload 5, 2) := by decide +kernel
theorem dG_greatestShared_27 : decode mG_greatestShared.2.1 27 = .ok (.istore_n 3, 1) := by decide +kernel
theorem dG_greatestShared_28 : decode mG_greatestShared.2.1 28 = .ok (.iinc 4 1, 3) := by decide +kernel
theorem dG_greatestShared_31 : decode mG_greatestShared.2.1 31 = .ok (.goto (-24), 3) := by decide +kernel
theorem dG_greatestShared_34 : decode mG_greatestShared.2.1 34 = .ok (.iload_n 2, 1) := by decide +kernel
theorem dG_greatestShared_35 : decode mG_greatestShared.2.1 35 = .ok (.ireturn, 1) := by decide +kernel
theorem dJS_length_8abf5_0 : decode mJS_length_8abf5.2.1 0 = .ok (.aload_n 0, 1) := by decide +kernel
theorem dJS_length_8abf5_1 : decode mJS_length_8abf5.2.1 1 = .ok (.getfield 9, 3) := by decide +kernel
theorem dJS_length_8abf5_4 : decode mJS_length_8abf5.2.1 4 = .ok (.arraylength, 1) := by decide +kernel
theorem dJS_length_8abf5_5 : decode mJS_length_8abf5.2.1 5 = .ok (.aload_n 0, 1) := by decide +kernel
theorem dJS_length_8abf5_6 : decode mJS_length_8abf5.2.1 6 = .ok (.invokevirtual 335, 3) := by decide +kernel
theorem dJS_length_8abf5_9 : decode mJS_length_8abf5.2.1 9 = .ok (.ishr, 1) := by decide +kernel
theorem dJS_length_8abf5_10 : decode mJS_length_8abf5.2.1 10 = .ok (.ireturn, 1) := by decide +kernel
theorem dJS_charAt_5068e_0 : decode mJS_charAt_5068e.2.1 0 = .ok (.aload_n 0, 1) := by decide +kernel
theorem dJS_charAt_5068e_1 : decode mJS_charAt_5068e.2.1 1 = .ok (.invokevirtual 492, 3) := by decide +kernel
theorem dJS_charAt_5068e_4 : decode mJS_charAt_5068e.2.1 4 = .ok (.ifCond .eq 12, 3) := by decide +kernel
theorem dJS_charAt_5068e_7 : decode mJS_charAt_5068e.2.1 7 = .ok (.aload_n 0, 1) := by decide +kernel
theorem dJS_charAt_5068e_8 : decode mJS_charAt_5068e.2.1 8 = .ok (.getfield 9, 3) := by decide +kernel
theorem dJS_charAt_5068e_11 : decode mJS_charAt_5068e.2.1 11 = .ok (.iload_n 1, 1) := by decide +kernel
theorem dJS_charAt_5068e_12 : decode mJS_charAt_5068e.2.1 12 = .ok (.invokestatic 495, 3) := by decide +kernel
theorem dJS_charAt_5068e_15 : decode mJS_charAt_5068e.2.1 15 = .ok (.ireturn, 1) := by decide +kernel
theorem dJS_charAt_5068e_16 : decode mJS_charAt_5068e.2.1 16 = .ok (.aload_n 0, 1) := by decide +kernel
theorem dJS_charAt_5068e_17 : decode mJS_charAt_5068e.2.1 17 = .ok (.getfield 9, 3) := by decide +kernel
theorem dJS_charAt_5068e_20 : decode mJS_charAt_5068e.2.1 20 = .ok (.iload_n 1, 1) := by decide +kernel
theorem dJS_charAt_5068e_21 : decode mJS_charAt_5068e.2.1 21 = .ok (.invokestatic 498, 3) := by decide +kernel
theorem dJS_charAt_5068e_24 : decode mJS_charAt_5068e.2.1 24 = .ok (.ireturn, 1) := by decide +kernel
theorem dJS_indexOf_0f7a4_0 : decode mJS_indexOf_0f7a4.2.1 0 = .ok (.aload_n 0, 1) := by decide +kernel
theorem dJS_indexOf_0f7a4_1 : decode mJS_indexOf_0f7a4.2.1 1 = .ok (.iload_n 1, 1) := by decide +kernel
theorem dJS_indexOf_0f7a4_2 : decode mJS_indexOf_0f7a4.2.1 2 = .ok (.iconst 0, 1) := by decide +kernel
theorem dJS_indexOf_0f7a4_3 : decode mJS_indexOf_0f7a4.2.1 3 = .ok (.invokevirtual 633, 3) := by decide +kernel
theorem dJS_indexOf_0f7a4_6 : decode mJS_indexOf_0f7a4.2.1 6 = .ok (.ireturn, 1) := by decide +kernel
theorem dJS_indexOf_7cf53_0 : decode mJS_indexOf_7cf53.2.1 0 = .ok (.aload_n 0, 1) := by decide +kernel
theorem dJS_indexOf_7cf53_1 : decode mJS_indexOf_7cf53.2.1 1 = .ok (.invokevirtual 492, 3) := by decide +kernel
theorem dJS_indexOf_7cf53_4 : decode mJS_indexOf_7cf53.2.1 4 = .ok (.ifCond .eq 19, 3) := by decide +kernel
theorem dJS_indexOf_7cf53_7 : decode mJS_indexOf_7cf53.2.1 7 = .ok (.aload_n 0, 1) := by decide +kernel
theorem dJS_indexOf_7cf53_8 : decode mJS_indexOf_7cf53.2.1 8 = .ok (.getfield 9, 3) := by decide +kernel
theorem dJS_indexOf_7cf53_11 : decode mJS_indexOf_7cf53.2.1 11 = .ok (.iload_n 1, 1) := by decide +kernel
theorem dJS_indexOf_7cf53_12 : decode mJS_indexOf_7cf53.2.1 12 = .ok (.iload_n 2, 1) := by decide +kernel
theorem dJS_indexOf_7cf53_13 : decode mJS_indexOf_7cf53.2.1 13 = .ok (.aload_n 0, 1) := by decide +kernel
theorem dJS_indexOf_7cf53_14 : decode mJS_indexOf_7cf53.2.1 14 = .ok (.invokevirtual 505, 3) := by decide +kernel
theorem dJS_indexOf_7cf53_17 : decode mJS_indexOf_7cf53.2.1 17 = .ok (.invokestatic 637, 3) := by decide +kernel
theorem dJS_indexOf_7cf53_20 : decode mJS_indexOf_7cf53.2.1 20 = .ok (.goto 16, 3) := by decide +kernel
theorem dJS_indexOf_7cf53_23 : decode mJS_indexOf_7cf53.2.1 23 = .ok (.aload_n 0, 1) := by decide +kernel
theorem dJS_indexOf_7cf53_24 : decode mJS_indexOf_7cf53.2.1 24 = .ok (.getfield 9, 3) := by decide +kernel
theorem dJS_indexOf_7cf53_27 : decode mJS_indexOf_7cf53.2.1 27 = .ok (.iload_n 1, 1) := by decide +kernel
theorem dJS_indexOf_7cf53_28 : decode mJS_indexOf_7cf53.2.1 28 = .ok (.iload_n 2, 1) := by decide +kernel
theorem dJS_indexOf_7cf53_29 : decode mJS_indexOf_7cf53.2.1 29 = .ok (.aload_n 0, 1) := by decide +kernel
theorem dJS_indexOf_7cf53_30 : decode mJS_indexOf_7cf53.2.1 30 = .ok (.invokevirtual 505, 3) := by decide +kernel
theorem dJS_indexOf_7cf53_33 : decode mJS_indexOf_7cf53.2.1 33 = .ok (.invokestatic 640, 3) := by decide +kernel
theorem dJS_indexOf_7cf53_36 : decode mJS_indexOf_7cf53.2.1 36 = .ok (.ireturn, 1) := by decide +kernel
theorem dJS_coder_7d493_0 : decode mJS_coder_7d493.2.1 0 = .ok (.getstatic 38, 3) := by decide +kernel
theorem dJS_coder_7d493_3 : decode mJS_coder_7d493.2.1 3 = .ok (.ifCond .eq 10, 3) := by decide +kernel
theorem dJS_coder_7d493_6 : decode mJS_coder_7d493.2.1 6 = .ok (.aload_n 0, 1) := by decide +kernel
theorem dJS_coder_7d493_7 : decode mJS_coder_7d493.2.1 7 = .ok (.getfield 15, 3) := by decide +kernel
theorem dJS_coder_7d493_10 : decode mJS_coder_7d493.2.1 10 = .ok (.goto 4, 3) := by decide +kernel
theorem dJS_coder_7d493_13 : decode mJS_coder_7d493.2.1 13 = .ok (.iconst 1, 1) := by decide +kernel
theorem dJS_coder_7d493_14 : decode mJS_coder_7d493.2.1 14 = .ok (.ireturn, 1) := by decide +kernel
theorem dJS_isLatin1_aae02_0 : decode mJS_isLatin1_aae02.2.1 0 = .ok (.getstatic 38, 3) := by decide +kernel
theorem dJS_isLatin1_aae02_3 : decode mJS_isLatin1_aae02.2.1 3 = .ok (.ifCond .eq 14, 3) := by decide +kernel
theorem dJS_isLatin1_aae02_6 : decode mJS_isLatin1_aae02.2.1 6 = .ok (.aload_n 0, 1) := by decide +kernel
theorem dJS_isLatin1_aae02_7 : decode mJS_isLatin1_aae02.2.1 7 = .ok (.getfield 15, 3) := by decide +kernel
theorem dJS_isLatin1_aae02_10 : decode mJS_isLatin1_aae02.2.1 10 = .ok (.ifCond .ne 7, 3) := by decide +kernel
theorem dJS_isLatin1_aae02_13 : decode mJS_isLatin1_aae02.2.1 13 = .ok (.iconst 1, 1) := by decide +kernel
theorem dJS_isLatin1_aae02_14 : decode mJS_isLatin1_aae02.2.1 14 = .ok (.goto 4, 3) := by decide +kernel
theorem dJS_isLatin1_aae02_17 : decode mJS_isLatin1_aae02.2.1 17 = .ok (.iconst 0, 1) := by decide +kernel
theorem dJS_isLatin1_aae02_18 : decode mJS_isLatin1_aae02.2.1 18 = .ok (.ireturn, 1) := by decide +kernel
theorem dJS_checkIndex_df160_0 : decode mJS_checkIndex_df160.2.1 0 = .ok (.iload_n 0, 1) := by decide +kernel
theorem dJS_checkIndex_df160_1 : decode mJS_checkIndex_df160.2.1 1 = .ok (.iload_n 1, 1) := by decide +kernel
theorem dJS_checkIndex_df160_2 : decode mJS_checkIndex_df160.2.1 2 = .ok (.getstatic 1053, 3) := by decide +kernel
theorem dJS_checkIndex_df160_5 : decode mJS_checkIndex_df160.2.1 5 = .ok (.invokestatic 1059, 3) := by decide +kernel
theorem dJS_checkIndex_df160_8 : decode mJS_checkIndex_df160.2.1 8 = .ok (.pop, 1) := by decide +kernel
theorem dJS_checkIndex_df160_9 : decode mJS_checkIndex_df160.2.1 9 = .ok (.return_, 1) := by decide +kernel
theorem dJL_charAt_3b067_0 : decode mJL_charAt_3b067.2.1 0 = .ok (.iload_n 1, 1) := by decide +kernel
theorem dJL_charAt_3b067_1 : decode mJL_charAt_3b067.2.1 1 = .ok (.aload_n 0, 1) := by decide +kernel
theorem dJL_charAt_3b067_2 : decode mJL_charAt_3b067.2.1 2 = .ok (.arraylength, 1) := by decide +kernel
theorem dJL_charAt_3b067_3 : decode mJL_charAt_3b067.2.1 3 = .ok (.invokestatic 9, 3) := by decide +kernel
theorem dJL_charAt_3b067_6 : decode mJL_charAt_3b067.2.1 6 = .ok (.aload_n 0, 1) := by decide +kernel
theorem dJL_charAt_3b067_7 : decode mJL_charAt_3b067.2.1 7 = .ok (.iload_n 1, 1) := by decide +kernel
theorem dJL_charAt_3b067_8 : decode mJL_charAt_3b067.2.1 8 = .ok (.baload, 1) := by decide +kernel
theorem dJL_charAt_3b067_9 : decode mJL_charAt_3b067.2.1 9 = .ok (.sipush 255, 3) := by decide +kernel
theorem dJL_charAt_3b067_12 : decode mJL_charAt_3b067.2.1 12 = .ok (.iand, 1) := by decide +kernel
theorem dJL_charAt_3b067_13 : decode mJL_charAt_3b067.2.1 13 = .ok (.i2c, 1) := by decide +kernel
theorem dJL_charAt_3b067_14 : decode mJL_charAt_3b067.2.1 14 = .ok (.ireturn, 1) := by decide +kernel
theorem dJL_canEncode_9a6ad_0 : decode mJL_canEncode_9a6ad.2.1 0 = .ok (.iload_n 0, 1) := by decide +kernel
theorem dJL_canEncode_9a6ad_1 : decode mJL_canEncode_9a6ad.2.1 1 = .ok (.ifCond .lt 14, 3) := by decide +kernel
theorem dJL_canEncode_9a6ad_4 : decode mJL_canEncode_9a6ad.2.1 4 = .ok (.iload_n 0, 1) := by decide +kernel
theorem dJL_canEncode_9a6ad_5 : decode mJL_canEncode_9a6ad.2.1 5 = .ok (.sipush 255, 3) := by decide +kernel
theorem dJL_canEncode_9a6ad_8 : decode mJL_canEncode_9a6ad.2.1 8 = .ok (.if_icmp .gt 7, 3) := by decide +kernel
theorem dJL_canEncode_9a6ad_11 : decode mJL_canEncode_9a6ad.2.1 11 = .ok (.iconst 1, 1) := by decide +kernel
theorem dJL_canEncode_9a6ad_12 : decode mJL_canEncode_9a6ad.2.1 12 = .ok (.goto 4, 3) := by decide +kernel
theorem dJL_canEncode_9a6ad_15 : decode mJL_canEncode_9a6ad.2.1 15 = .ok (.iconst 0, 1) := by decide +kernel
theorem dJL_canEncode_9a6ad_16 : decode mJL_canEncode_9a6ad.2.1 16 = .ok (.ireturn, 1) := by decide +kernel
theorem dJL_indexOf_4cfef_0 : decode mJL_indexOf_4cfef.2.1 0 = .ok (.iload_n 1, 1) := by decide +kernel
theorem dJL_indexOf_4cfef_1 : decode mJL_indexOf_4cfef.2.1 1 = .ok (.invokestatic 88, 3) := by decide +kernel
theorem dJL_indexOf_4cfef_4 : decode mJL_indexOf_4cfef.2.1 4 = .ok (.ifCond .ne 5, 3) := by decide +kernel
theorem dJL_indexOf_4cfef_7 : decode mJL_indexOf_4cfef.2.1 7 = .ok (.iconst (-1), 1) := by decide +kernel
theorem dJL_indexOf_4cfef_8 : decode mJL_indexOf_4cfef.2.1 8 = .ok (.ireturn, 1) := by decide +kernel
theorem dJL_indexOf_4cfef_9 : decode mJL_indexOf_4cfef.2.1 9 = .ok (.iload_n 2, 1) := by decide +kernel
theorem dJL_indexOf_4cfef_10 : decode mJL_indexOf_4cfef.2.1 10 = .ok (.iconst 0, 1) := by decide +kernel
theorem dJL_indexOf_4cfef_11 : decode mJL_indexOf_4cfef.2.1 11 = .ok (.invokestatic 92, 3) := by decide +kernel
theorem dJL_indexOf_4cfef_14 : decode mJL_indexOf_4cfef.2.1 14 = .ok (.istore_n 2, 1) := by decide +kernel
theorem dJL_indexOf_4cfef_15 : decode mJL_indexOf_4cfef.2.1 15 = .ok (.iload_n 3, 1) := by decide +kernel
theorem dJL_indexOf_4cfef_16 : decode mJL_indexOf_4cfef.2.1 16 = .ok (.aload_n 0, 1) := by decide +kernel
theorem dJL_indexOf_4cfef_17 : decode mJL_indexOf_4cfef.2.1 17 = .ok (.arraylength, 1) := by decide +kernel
theorem dJL_indexOf_4cfef_18 : decode mJL_indexOf_4cfef.2.1 18 = .ok (.invokestatic 38, 3) := by decide +kernel
theorem dJL_indexOf_4cfef_21 : decode mJL_indexOf_4cfef.2.1 21 = .ok (.istore_n 3, 1) := by decide +kernel
theorem dJL_indexOf_4cfef_22 : decode mJL_indexOf_4cfef.2.1 22 = .ok (.iload_n 2, 1) := by decide +kernel
theorem dJL_indexOf_4cfef_23 : decode mJL_indexOf_4cfef.2.1 23 = .ok (.iload_n 3, 1) := by decide +kernel
theorem dJL_indexOf_4cfef_24 : decode mJL_indexOf_4cfef.2.1 24 = .ok (.if_icmp .lt 5, 3) := by decide +kernel
theorem dJL_indexOf_4cfef_27 : decode mJL_indexOf_4cfef.2.1 27 = .ok (.iconst (-1), 1) := by decide +kernel
theorem dJL_indexOf_4cfef_28 : decode mJL_indexOf_4cfef.2.1 28 = .ok (.ireturn, 1) := by decide +kernel
theorem dJL_indexOf_4cfef_29 : decode mJL_indexOf_4cfef.2.1 29 = .ok (.aload_n 0, 1) := by decide +kernel
theorem dJL_indexOf_4cfef_30 : decode mJL_indexOf_4cfef.2.1 30 = .ok (.iload_n 1, 1) := by decide +kernel
theorem dJL_indexOf_4cfef_31 : decode mJL_indexOf_4cfef.2.1 31 = .ok (.iload_n 2, 1) := by decide +kernel
theorem dJL_indexOf_4cfef_32 : decode mJL_indexOf_4cfef.2.1 32 = .ok (.iload_n 3, 1) := by decide +kernel
theorem dJL_indexOf_4cfef_33 : decode mJL_indexOf_4cfef.2.1 33 = .ok (.invokestatic 95, 3) := by decide +kernel
theorem dJL_indexOf_4cfef_36 : decode mJL_indexOf_4cfef.2.1 36 = .ok (.ireturn, 1) := by decide +kernel
theorem dJL_indexOfChar_4cfef_0 : decode mJL_indexOfChar_4cfef.2.1 0 = .ok (.iload_n 1, 1) := by decide +kernel
theorem dJL_indexOfChar_4cfef_1 : decode mJL_indexOfChar_4cfef.2.1 1 = .ok (.i2b, 1) := by decide +kernel
theorem dJL_indexOfChar_4cfef_2 : decode mJL_indexOfChar_4cfef.2.1 2 = .ok (.istore 4, 2) := by decide +kernel
theorem dJL_indexOfChar_4cfef_4 : decode mJL_indexOfChar_4cfef.2.1 4 = .ok (.iload_n 2, 1) := by decide +kernel
theorem dJL_indexOfChar_4cfef_5 : decode mJL_indexOfChar_4cfef.2.1 5 = .ok (.istore 5, 2) := by decide +kernel
theorem dJL_indexOfChar_4cfef_7 : decode mJL_indexOfChar_4cfef.2.1 7 = .ok (.iload 5, 2) := by decide +kernel
theorem dJL_indexOfChar_4cfef_9 : decode mJL_indexOfChar_4cfef.2.1 9 = .ok (.iload_n 3, 1) := by decide +kernel
theorem dJL_indexOfChar_4cfef_10 : decode mJL_indexOfChar_4cfef.2.1 10 = .ok (.if_icmp .ge 21, 3) := by decide +kernel
theorem dJL_indexOfChar_4cfef_13 : decode mJL_indexOfChar_4cfef.2.1 13 = .ok (.aload_n 0, 1) := by decide +kernel
theorem dJL_indexOfChar_4cfef_14 : decode mJL_indexOfChar_4cfef.2.1 14 = .ok (.iload 5, 2) := by decide +kernel
theorem dJL_indexOfChar_4cfef_16 : decode mJL_indexOfChar_4cfef.2.1 16 = .ok (.baload, 1) := by decide +kernel
theorem dJL_indexOfChar_4cfef_17 : decode mJL_indexOfChar_4cfef.2.1 17 = .ok (.iload 4, 2) := by decide +kernel
theorem dJL_indexOfChar_4cfef_19 : decode mJL_indexOfChar_4cfef.2.1 19 = .ok (.if_icmp .ne 6, 3) := by decide +kernel
theorem dJL_indexOfChar_4cfef_22 : decode mJL_indexOfChar_4cfef.2.1 22 = .ok (.iload 5, 2) := by decide +kernel
theorem dJL_indexOfChar_4cfef_24 : decode mJL_indexOfChar_4cfef.2.1 24 = .ok (.ireturn, 1) := by decide +kernel
theorem dJL_indexOfChar_4cfef_25 : decode mJL_indexOfChar_4cfef.2.1 25 = .ok (.iinc 5 1, 3) := by decide +kernel
theorem dJL_indexOfChar_4cfef_28 : decode mJL_indexOfChar_4cfef.2.1 28 = .ok (.goto (-21), 3) := by decide +kernel
theorem dJL_indexOfChar_4cfef_31 : decode mJL_indexOfChar_4cfef.2.1 31 = .ok (.iconst (-1), 1) := by decide +kernel
theorem dJL_indexOfChar_4cfef_32 : decode mJL_indexOfChar_4cfef.2.1 32 = .ok (.ireturn, 1) := by decide +kernel
theorem dJP_checkIndex_8e157_0 : decode mJP_checkIndex_8e157.2.1 0 = .ok (.iload_n 0, 1) := by decide +kernel
theorem dJP_checkIndex_8e157_1 : decode mJP_checkIndex_8e157.2.1 1 = .ok (.ifCond .lt 8, 3) := by decide +kernel
theorem dJP_checkIndex_8e157_4 : decode mJP_checkIndex_8e157.2.1 4 = .ok (.iload_n 0, 1) := by decide +kernel
theorem dJP_checkIndex_8e157_5 : decode mJP_checkIndex_8e157.2.1 5 = .ok (.iload_n 1, 1) := by decide +kernel
theorem dJP_checkIndex_8e157_6 : decode mJP_checkIndex_8e157.2.1 6 = .ok (.if_icmp .lt 10, 3) := by decide +kernel
theorem dJP_checkIndex_8e157_9 : decode mJP_checkIndex_8e157.2.1 9 = .ok (.aload_n 2, 1) := by decide +kernel
theorem dJP_checkIndex_8e157_10 : decode mJP_checkIndex_8e157.2.1 10 = .ok (.iload_n 0, 1) := by decide +kernel
theorem dJP_checkIndex_8e157_11 : decode mJP_checkIndex_8e157.2.1 11 = .ok (.iload_n 1, 1) := by decide +kernel
theorem dJP_checkIndex_8e157_12 : decode mJP_checkIndex_8e157.2.1 12 = .ok (.invokestatic 95, 3) := by decide +kernel
theorem dJP_checkIndex_8e157_15 : decode mJP_checkIndex_8e157.2.1 15 = .ok (.athrow, 1) := by decide +kernel
theorem dJP_checkIndex_8e157_16 : decode mJP_checkIndex_8e157.2.1 16 = .ok (.iload_n 0, 1) := by decide +kernel
theorem dJP_checkIndex_8e157_17 : decode mJP_checkIndex_8e157.2.1 17 = .ok (.ireturn, 1) := by decide +kernel
theorem dJI_bitCount_0f7a4_0 : decode mJI_bitCount_0f7a4.2.1 0 = .ok (.iload_n 0, 1) := by decide +kernel
theorem dJI_bitCount_0f7a4_1 : decode mJI_bitCount_0f7a4.2.1 1 = .ok (.iload_n 0, 1) := by decide +kernel
theorem dJI_bitCount_0f7a4_2 : decode mJI_bitCount_0f7a4.2.1 2 = .ok (.iconst 1, 1) := by decide +kernel
theorem dJI_bitCount_0f7a4_3 : decode mJI_bitCount_0f7a4.2.1 3 = .ok (.iushr, 1) := by decide +kernel
theorem dJI_bitCount_0f7a4_4 : decode mJI_bitCount_0f7a4.2.1 4 = .ok (.ldc_w 265, 3) := by decide +kernel
theorem dJI_bitCount_0f7a4_7 : decode mJI_bitCount_0f7a4.2.1 7 = .ok (.iand, 1) := by decide +kernel
theorem dJI_bitCount_0f7a4_8 : decode mJI_bitCount_0f7a4.2.1 8 = .ok (.isub, 1) := by decide +kernel
theorem dJI_bitCount_0f7a4_9 : decode mJI_bitCount_0f7a4.2.1 9 = .ok (.istore_n 0, 1) := by decide +kernel
theorem dJI_bitCount_0f7a4_10 : decode mJI_bitCount_0f7a4.2.1 10 = .ok (.iload_n 0, 1) := by decide +kernel
theorem dJI_bitCount_0f7a4_11 : decode mJI_bitCount_0f7a4.2.1 11 = .ok (.ldc_w 266, 3) := by decide +kernel
theorem dJI_bitCount_0f7a4_14 : decode mJI_bitCount_0f7a4.2.1 14 = .ok (.iand, 1) := by decide +kernel
theorem dJI_bitCount_0f7a4_15 : decode mJI_bitCount_0f7a4.2.1 15 = .ok (.iload_n 0, 1) := by decide +kernel
theorem dJI_bitCount_0f7a4_16 : decode mJI_bitCount_0f7a4.2.1 16 = .ok (.iconst 2, 1) := by decide +kernel
theorem dJI_bitCount_0f7a4_17 : decode mJI_bitCount_0f7a4.2.1 17 = .ok (.iushr, 1) := by decide +kernel
theorem dJI_bitCount_0f7a4_18 : decode mJI_bitCount_0f7a4.2.1 18 = .ok (.ldc_w 266, 3) := by decide +kernel
theorem dJI_bitCount_0f7a4_21 : decode mJI_bitCount_0f7a4.2.1 21 = .ok (.iand, 1) := by decide +kernel
theorem dJI_bitCount_0f7a4_22 : decode mJI_bitCount_0f7a4.2.1 22 = .ok (.iadd, 1) := by decide +kernel
theorem dJI_bitCount_0f7a4_23 : decode mJI_bitCount_0f7a4.2.1 23 = .ok (.istore_n 0, 1) := by decide +kernel
theorem dJI_bitCount_0f7a4_24 : decode mJI_bitCount_0f7a4.2.1 24 = .ok (.iload_n 0, 1) := by decide +kernel
theorem dJI_bitCount_0f7a4_25 : decode mJI_bitCount_0f7a4.2.1 25 = .ok (.iload_n 0, 1) := by decide +kernel
theorem dJI_bitCount_0f7a4_26 : decode mJI_bitCount_0f7a4.2.1 26 = .ok (.iconst 4, 1) := by decide +kernel
theorem dJI_bitCount_0f7a4_27 : decode mJI_bitCount_0f7a4.2.1 27 = .ok (.iushr, 1) := by decide +kernel
theorem dJI_bitCount_0f7a4_28 : decode mJI_bitCount_0f7a4.2.1 28 = .ok (.iadd, 1) := by decide +kernel
theorem dJI_bitCount_0f7a4_29 : decode mJI_bitCount_0f7a4.2.1 29 = .ok (.ldc_w 267, 3) := by decide +kernel
theorem dJI_bitCount_0f7a4_32 : decode mJI_bitCount_0f7a4.2.1 32 = .ok (.iand, 1) := by decide +kernel
theorem dJI_bitCount_0f7a4_33 : decode mJI_bitCount_0f7a4.2.1 33 = .ok (.istore_n 0, 1) := by decide +kernel
theorem dJI_bitCount_0f7a4_34 : decode mJI_bitCount_0f7a4.2.1 34 = .ok (.iload_n 0, 1) := by decide +kernel
theorem dJI_bitCount_0f7a4_35 : decode mJI_bitCount_0f7a4.2.1 35 = .ok (.iload_n 0, 1) := by decide +kernel
theorem dJI_bitCount_0f7a4_36 : decode mJI_bitCount_0f7a4.2.1 36 = .ok (.bipush 8, 2) := by decide +kernel
theorem dJI_bitCount_0f7a4_38 : decode mJI_bitCount_0f7a4.2.1 38 = .ok (.iushr, 1) := by decide +kernel
theorem dJI_bitCount_0f7a4_39 : decode mJI_bitCount_0f7a4.2.1 39 = .ok (.iadd, 1) := by decide +kernel
theorem dJI_bitCount_0f7a4_40 : decode mJI_bitCount_0f7a4.2.1 40 = .ok (.istore_n 0, 1) := by decide +kernel
theorem dJI_bitCount_0f7a4_41 : decode mJI_bitCount_0f7a4.2.1 41 = .ok (.iload_n 0, 1) := by decide +kernel
theorem dJI_bitCount_0f7a4_42 : decode mJI_bitCount_0f7a4.2.1 42 = .ok (.iload_n 0, 1) := by decide +kernel
theorem dJI_bitCount_0f7a4_43 : decode mJI_bitCount_0f7a4.2.1 43 = .ok (.bipush 16, 2) := by decide +kernel
theorem dJI_bitCount_0f7a4_45 : decode mJI_bitCount_0f7a4.2.1 45 = .ok (.iushr, 1) := by decide +kernel
theorem dJI_bitCount_0f7a4_46 : decode mJI_bitCount_0f7a4.2.1 46 = .ok (.iadd, 1) := by decide +kernel
theorem dJI_bitCount_0f7a4_47 : decode mJI_bitCount_0f7a4.2.1 47 = .ok (.istore_n 0, 1) := by decide +kernel
theorem dJI_bitCount_0f7a4_48 : decode mJI_bitCount_0f7a4.2.1 48 = .ok (.iload_n 0, 1) := by decide +kernel
theorem dJI_bitCount_0f7a4_49 : decode mJI_bitCount_0f7a4.2.1 49 = .ok (.bipush 63, 2) := by decide +kernel
theorem dJI_bitCount_0f7a4_51 : decode mJI_bitCount_0f7a4.2.1 51 = .ok (.iand, 1) := by decide +kernel
theorem dJI_bitCount_0f7a4_52 : decode mJI_bitCount_0f7a4.2.1 52 = .ok (.ireturn, 1) := by decide +kernel
theorem dJM_max_7cf53_0 : decode mJM_max_7cf53.2.1 0 = .ok (.iload_n 0, 1) := by decide +kernel
theorem dJM_max_7cf53_1 : decode mJM_max_7cf53.2.1 1 = .ok (.iload_n 1, 1) := by decide +kernel
theorem dJM_max_7cf53_2 : decode mJM_max_7cf53.2.1 2 = .ok (.if_icmp .lt 7, 3) := by decide +kernel
theorem dJM_max_7cf53_5 : decode mJM_max_7cf53.2.1 5 = .ok (.iload_n 0, 1) := by decide +kernel
theorem dJM_max_7cf53_6 : decode mJM_max_7cf53.2.1 6 = .ok (.goto 4, 3) := by decide +kernel
theorem dJM_max_7cf53_9 : decode mJM_max_7cf53.2.1 9 = .ok (.iload_n 1, 1) := by decide +kernel
theorem dJM_max_7cf53_10 : decode mJM_max_7cf53.2.1 10 = .ok (.ireturn, 1) := by decide +kernel
theorem dJM_min_7cf53_0 : decode mJM_min_7cf53.2.1 0 = .ok (.iload_n 0, 1) := by decide +kernel
theorem dJM_min_7cf53_1 : decode mJM_min_7cf53.2.1 1 = .ok (.iload_n 1, 1) := by decide +kernel
theorem dJM_min_7cf53_2 : decode mJM_min_7cf53.2.1 2 = .ok (.if_icmp .gt 7, 3) := by decide +kernel
theorem dJM_min_7cf53_5 : decode mJM_min_7cf53.2.1 5 = .ok (.iload_n 0, 1) := by decide +kernel
theorem dJM_min_7cf53_6 : decode mJM_min_7cf53.2.1 6 = .ok (.goto 4, 3) := by decide +kernel
theorem dJM_min_7cf53_9 : decode mJM_min_7cf53.2.1 9 = .ok (.iload_n 1, 1) := by decide +kernel
theorem dJM_min_7cf53_10 : decode mJM_min_7cf53.2.1 10 = .ok (.ireturn, 1) := by decide +kernel
